/-! ===== the reference: best, flat, walked ===== -/
def rm_q (w w' : ck_W) : Prop := w' 76 = w 76 ∧ w' 77 = w 77 ∧ w' 78 = w 78 ∧ w' 79 = w 79 ∧ rm_fr w w'
theorem rm_q_rf {w : ck_W} : rm_q w w := ⟨rfl, rfl, rfl, rfl, rm_fr_rf⟩
theorem rm_q_tr {w w1 w2 : ck_W} (h : rm_q w w1) (h2 : rm_q w1 w2) : rm_q w w2 := ⟨h2.1.trans h.1, h2.2.1.trans h.2.1, h2.2.2.1.trans h.2.2.1, h2.2.2.2.1.trans h.2.2.2.1, fun k hk => (h2.2.2.2.2 k hk).trans (h.2.2.2.2 k hk)⟩
theorem rm_q_up {w w' : ck_W} {k : Nat} {i v : Int} (h : rm_q w w') (hk : 80 ≤ k ∧ k ≠ 89) : rm_q w (ck_up w' k i v) := ⟨by rw [ck_up_ne (by omega)]; exact h.1, by rw [ck_up_ne (by omega)]; exact h.2.1, by rw [ck_up_ne (by omega)]; exact h.2.2.1, by rw [ck_up_ne (by omega)]; exact h.2.2.2.1, rm_fr_up h.2.2.2.2 (by omega)⟩
theorem rm_q_wf {w w' : ck_W} (h : rm_wf w w') : rm_q w w' := ⟨h 76 (by decide) (by decide) (by decide) (by decide) (by decide) (by decide) (by decide) (by decide), h 77 (by decide) (by decide) (by decide) (by decide) (by decide) (by decide) (by decide) (by decide), h 78 (by decide) (by decide) (by decide) (by decide) (by decide) (by decide) (by decide) (by decide), h 79 (by decide) (by decide) (by decide) (by decide) (by decide) (by decide) (by decide) (by decide), fun k hk => h k (by omega) (by omega) (by omega) (by omega) (by omega) (by omega) (by omega) (by omega)⟩
theorem rm_I_q {A R : Nat} {w w' : ck_W} (h : rm_I A R w) (q : rm_q w w') : rm_I A R w' := rm_I_c h q.1 q.2.1 q.2.2.1 q.2.2.2.1
theorem rm_mb {a s : Int} (ha : 0 ≤ a ∧ a ≤ 6) (hs : -40 ≤ s ∧ s ≤ 40) : -240 ≤ a * s ∧ a * s ≤ 240 := by
  rcases (by omega : a = 0 ∨ a = 1 ∨ a = 2 ∨ a = 3 ∨ a = 4 ∨ a = 5 ∨ a = 6) with rfl | rfl | rfl | rfl | rfl | rfl | rfl <;> omega
/-- how many places a slice has -/
theorem rm_pb {A R : Nat} {g : ch_G} (hC : ck_Cx g A R) {w : ck_W} (hI : rm_I A R w) {z : Int} (h0 : 0 ≤ z) (h1 : z ≤ 5) : 3 ≤ w 77 (10 + z) * w 76 0 ∧ w 77 (10 + z) * w 76 0 ≤ 24 := by
  have c := rm_cp hC hI
  have tb := rm_turn hI.2.2.2.1 h0 h1
  rcases (by omega : w 77 (10 + z) = 1 ∨ w 77 (10 + z) = 2 ∨ w 77 (10 + z) = 3 ∨ w 77 (10 + z) = 4) with e | e | e | e <;> rw [e] <;> omega
theorem dX12_windAll_0 : decode cX12_windAll 0 = .ok (.iconst 0, 1) := dk_3 (by decide +kernel)
theorem dX12_windAll_1 : decode cX12_windAll 1 = .ok (.istore_n 1, 1) := dk_60 (by decide +kernel)
theorem dX12_windAll_2 : decode cX12_windAll 2 = .ok (.iload_n 1, 1) := dk_27 (by decide +kernel)
theorem dX12_windAll_3 : decode cX12_windAll 3 = .ok (.bipush 6, 2) := dk_16 6 (by decide +kernel)
theorem dX12_windAll_5 : decode cX12_windAll 5 = .ok (.if_icmp .ge 14, 3) := dk_162 0 14 (by decide +kernel)
theorem dX12_windAll_8 : decode cX12_windAll 8 = .ok (.aload_n 0, 1) := dk_42 (by decide +kernel)
theorem dX12_windAll_9 : decode cX12_windAll 9 = .ok (.iload_n 1, 1) := dk_27 (by decide +kernel)
theorem dX12_windAll_10 : decode cX12_windAll 10 = .ok (.invokevirtual 154, 3) := dk_182 0 154 (by decide +kernel)
theorem dX12_windAll_13 : decode cX12_windAll 13 = .ok (.iinc 1 1, 3) := dk_132 1 (by decide +kernel)
theorem dX12_windAll_16 : decode cX12_windAll 16 = .ok (.goto (-14), 3) := dk_167 255 242 (by decide +kernel)
theorem dX12_windAll_19 : decode cX12_windAll 19 = .ok (.return_, 1) := dk_177 (by decide +kernel)
set_option maxRecDepth 8000 in
theorem e_X12_windAll {g : ch_G} {A R : Nat} (hC : ck_Cx g A R) {d : Nat} {K : Option ck_V → ck_W → Prop} {w : ck_W} (h : ck_At (ch_C g A R) (d + 1) mX12_windAll K 2 [some (.inr (.inr 76)), some (.inl 0)] [] w) : ck_Ex (ch_C g A R) (d + 1) mX12_windAll [.inr (.inr 76)] w K :=
  ck_entry hC.1 [some (.inr (.inr 76)), none] (by decide) (Nat.le_of_ble_eq_true rfl) rfl (fun q => q) (ck_in (fun hl => (ck_iconst 1 rfl dX12_windAll_0 rfl (ck_istore_n 2 rfl 1 [some (.inr (.inr 76)), some (.inl 0)] dX12_windAll_1 rfl (Nat.le_of_ble_eq_true rfl) rfl rfl (show ck_i 0 by decide) h))))
set_option maxRecDepth 8000 in
theorem r_X12_windAll_2 {g : ch_G} {A R : Nat} (hC : ck_Cx g A R) {d : Nat} {K : Option ck_V → ck_W → Prop} {w : ck_W} {a1 : Int} (h : (6 ≤ a1 → K none w) ∧ (¬ 6 ≤ a1 → ck_CN (ch_C g A R) d mX12_wind [.inr (.inr 76), .inl a1] w (fun w1 => ck_i (a1 + 1) ∧ (ck_At (ch_C g A R) (d + 1) mX12_windAll K 2 [some (.inr (.inr 76)), some (.inl (a1 + 1))] [] w1)))) : ck_At (ch_C g A R) (d + 1) mX12_windAll K 2 [some (.inr (.inr 76)), some (.inl a1)] [] w :=
  ck_in (fun hl => (ck_iload_n 3 rfl 1 dX12_windAll_2 rfl rfl (ck_bipush 5 rfl dX12_windAll_3 rfl (ck_icmp_ge 8 rfl 19 dX12_windAll_5 rfl hl.2.1 (show ck_i 6 by decide) (fun c4 => (ck_vret dX12_windAll_19 rfl (h.1 c4))) (fun c5 => (ck_aload_n 9 rfl 0 dX12_windAll_8 rfl rfl (ck_iload_n 10 rfl 1 dX12_windAll_9 rfl rfl (ck_callV 13 rfl [.inl a1] [] dX12_windAll_10 cv_X12_154 sh_76 rfl rfl (Nat.le_of_ble_eq_true rfl) (And.intro hl.2.1 True.intro) (ck_mN (h.2 c5) (fun w1 h3 => (have h7 := h3; have o2 := h7.1; have h6 := h7.2; (ck_iinc 16 rfl [some (.inr (.inr 76)), some (.inl (a1 + 1))] dX12_windAll_13 rfl (Nat.le_of_ble_eq_true rfl) rfl rfl o2 (ck_goto 2 dX12_windAll_16 rfl h6)))))))))))))
theorem S_X12_windAll {g : ch_G} {A R : Nat} (hC : ck_Cx g A R) {d : Nat} {K : Option ck_V → ck_W → Prop} {w : ck_W} (hI : rm_I A R w) (h : ∀ w', rm_wf w w' → (∀ z, 0 ≤ z → z ≤ 5 → rm_wd R (w 77 (10 + z) * A) z w') → K none w') : ck_Ex (ch_C g A R) (d + 6) mX12_windAll [.inr (.inr 76)] w K := by
  have l : ∀ (m : Nat) (a1 : Int) (u : ck_W), 6 - a1 = m → 0 ≤ a1 → rm_wf w u → (∀ z, 0 ≤ z → z < a1 → rm_wd R (w 77 (10 + z) * A) z u) → ck_At (ch_C g A R) (d + 6) mX12_windAll K 2 [some (.inr (.inr 76)), some (.inl a1)] [] u := by
    intro m
    induction m with
    | zero =>
      intro a1 u q1 q2 q3 q4
      exact r_X12_windAll_2 hC ⟨fun _ => h u q3 (fun z a b => q4 z a (by omega)), fun z => absurd (by omega) z⟩
    | succ m ih =>
      intro a1 u q1 q2 q3 q4
      have qq := rm_q_wf q3
      refine r_X12_windAll_2 hC ⟨fun z => absurd z (by omega), fun _ => S_X12_wind hC (rm_I_q hI qq) (by omega) (fun w' i1 i2 i3 i4 => ⟨rfl, by constructor <;> omega, ih _ _ (by omega) (by omega) (fun k b1 b2 b3 b4 b5 b6 b7 b8 => by rw [i1 k b1 b2 b3 b4 b5 b6 b7 b8, q3 k b1 b2 b3 b4 b5 b6 b7 b8]) (fun z a b => ?_)⟩)⟩
      by_cases e : z = a1
      · subst e; rw [qq.2.1] at i4; exact i4
      · have o := q4 z a (by omega)
        unfold rm_wd at o ⊢
        rw [(i2 z e).1, (i2 z e).2]
        refine ⟨o.1, o.2.1, fun y p p0 p1 => ?_⟩
        have tb := rm_turn hI.2.2.2.1 a (show z ≤ 5 by omega)
        have pb := rm_pb hC hI a (show z ≤ 5 by omega)
        rw [(rm_cp hC hI).1] at pb
        rw [(i3 (24 * z + p) (by omega)).1]
        exact o.2.2 y p p0 p1
  exact e_X12_windAll hC (l 6 0 w (by omega) (by omega) (fun _ _ _ _ _ _ _ _ _ => rfl) (fun z a b => by omega))
theorem dX12_best_0 : decode cX12_best 0 = .ok (.iload_n 1, 1) := dk_27 (by decide +kernel)
theorem dX12_best_1 : decode cX12_best 1 = .ok (.invokestatic 97, 3) := dk_184 0 97 (by decide +kernel)
theorem dX12_best_4 : decode cX12_best 4 = .ok (.ifCond .ne 5, 3) := dk_154 0 5 (by decide +kernel)
theorem dX12_best_7 : decode cX12_best 7 = .ok (.iconst (-1), 1) := dk_2 (by decide +kernel)
theorem dX12_best_8 : decode cX12_best 8 = .ok (.ireturn, 1) := dk_172 (by decide +kernel)
theorem dX12_best_9 : decode cX12_best 9 = .ok (.aload_n 0, 1) := dk_42 (by decide +kernel)
theorem dX12_best_10 : decode cX12_best 10 = .ok (.iload_n 1, 1) := dk_27 (by decide +kernel)
theorem dX12_best_11 : decode cX12_best 11 = .ok (.invokevirtual 131, 3) := dk_182 0 131 (by decide +kernel)
theorem dX12_best_14 : decode cX12_best 14 = .ok (.istore_n 3, 1) := dk_62 (by decide +kernel)
theorem dX12_best_15 : decode cX12_best 15 = .ok (.iload_n 2, 1) := dk_28 (by decide +kernel)
theorem dX12_best_16 : decode cX12_best 16 = .ok (.iconst 0, 1) := dk_3 (by decide +kernel)
theorem dX12_best_17 : decode cX12_best 17 = .ok (.iconst 1, 1) := dk_4 (by decide +kernel)
theorem dX12_best_18 : decode cX12_best 18 = .ok (.invokestatic 93, 3) := dk_184 0 93 (by decide +kernel)
theorem dX12_best_21 : decode cX12_best 21 = .ok (.ifCond .ne 31, 3) := dk_154 0 31 (by decide +kernel)
theorem dX12_best_24 : decode cX12_best 24 = .ok (.iload_n 2, 1) := dk_28 (by decide +kernel)
theorem dX12_best_25 : decode cX12_best 25 = .ok (.bipush 100, 2) := dk_16 100 (by decide +kernel)
theorem dX12_best_27 : decode cX12_best 27 = .ok (.bipush 99, 2) := dk_16 99 (by decide +kernel)
theorem dX12_best_29 : decode cX12_best 29 = .ok (.iload_n 3, 1) := dk_29 (by decide +kernel)
theorem dX12_best_30 : decode cX12_best 30 = .ok (.iadd, 1) := dk_96 (by decide +kernel)
theorem dX12_best_31 : decode cX12_best 31 = .ok (.invokestatic 93, 3) := dk_184 0 93 (by decide +kernel)
theorem dX12_best_34 : decode cX12_best 34 = .ok (.ifCond .ne 18, 3) := dk_154 0 18 (by decide +kernel)
theorem dX12_best_37 : decode cX12_best 37 = .ok (.iload_n 2, 1) := dk_28 (by decide +kernel)
theorem dX12_best_38 : decode cX12_best 38 = .ok (.sipush 200, 3) := dk_17 0 200 (by decide +kernel)
theorem dX12_best_41 : decode cX12_best 41 = .ok (.sipush 199, 3) := dk_17 0 199 (by decide +kernel)
theorem dX12_best_44 : decode cX12_best 44 = .ok (.iload_n 3, 1) := dk_29 (by decide +kernel)
theorem dX12_best_45 : decode cX12_best 45 = .ok (.iadd, 1) := dk_96 (by decide +kernel)
theorem dX12_best_46 : decode cX12_best 46 = .ok (.invokestatic 93, 3) := dk_184 0 93 (by decide +kernel)
theorem dX12_best_49 : decode cX12_best 49 = .ok (.ifCond .eq 7, 3) := dk_153 0 7 (by decide +kernel)
theorem dX12_best_52 : decode cX12_best 52 = .ok (.iconst 1, 1) := dk_4 (by decide +kernel)
theorem dX12_best_53 : decode cX12_best 53 = .ok (.goto 4, 3) := dk_167 0 4 (by decide +kernel)
theorem dX12_best_56 : decode cX12_best 56 = .ok (.iconst 0, 1) := dk_3 (by decide +kernel)
theorem dX12_best_57 : decode cX12_best 57 = .ok (.istore 4, 2) := dk_54 (by decide +kernel)
theorem dX12_best_59 : decode cX12_best 59 = .ok (.iload 4, 2) := dk_21 (by decide +kernel)
theorem dX12_best_61 : decode cX12_best 61 = .ok (.ifCond .ne 5, 3) := dk_154 0 5 (by decide +kernel)
theorem dX12_best_64 : decode cX12_best 64 = .ok (.iconst (-1), 1) := dk_2 (by decide +kernel)
theorem dX12_best_65 : decode cX12_best 65 = .ok (.ireturn, 1) := dk_172 (by decide +kernel)
theorem dX12_best_66 : decode cX12_best 66 = .ok (.aload_n 0, 1) := dk_42 (by decide +kernel)
theorem dX12_best_67 : decode cX12_best 67 = .ok (.iload_n 1, 1) := dk_27 (by decide +kernel)
theorem dX12_best_68 : decode cX12_best 68 = .ok (.invokevirtual 154, 3) := dk_182 0 154 (by decide +kernel)
theorem dX12_best_71 : decode cX12_best 71 = .ok (.aload_n 0, 1) := dk_42 (by decide +kernel)
theorem dX12_best_72 : decode cX12_best 72 = .ok (.getfield 30, 3) := dk_180 0 30 (by decide +kernel)
theorem dX12_best_75 : decode cX12_best 75 = .ok (.iload_n 1, 1) := dk_27 (by decide +kernel)
theorem dX12_best_76 : decode cX12_best 76 = .ok (.iaload, 1) := dk_46 (by decide +kernel)
theorem dX12_best_77 : decode cX12_best 77 = .ok (.ifCond .ge 5, 3) := dk_156 0 5 (by decide +kernel)
theorem dX12_best_80 : decode cX12_best 80 = .ok (.iconst (-1), 1) := dk_2 (by decide +kernel)
theorem dX12_best_81 : decode cX12_best 81 = .ok (.ireturn, 1) := dk_172 (by decide +kernel)
theorem dX12_best_82 : decode cX12_best 82 = .ok (.iload_n 2, 1) := dk_28 (by decide +kernel)
theorem dX12_best_83 : decode cX12_best 83 = .ok (.iconst 2, 1) := dk_5 (by decide +kernel)
theorem dX12_best_84 : decode cX12_best 84 = .ok (.if_icmp .ge 23, 3) := dk_162 0 23 (by decide +kernel)
theorem dX12_best_87 : decode cX12_best 87 = .ok (.iload_n 2, 1) := dk_28 (by decide +kernel)
theorem dX12_best_88 : decode cX12_best 88 = .ok (.ifCond .ne 12, 3) := dk_154 0 12 (by decide +kernel)
theorem dX12_best_91 : decode cX12_best 91 = .ok (.aload_n 0, 1) := dk_42 (by decide +kernel)
theorem dX12_best_92 : decode cX12_best 92 = .ok (.getfield 30, 3) := dk_180 0 30 (by decide +kernel)
theorem dX12_best_95 : decode cX12_best 95 = .ok (.iload_n 1, 1) := dk_27 (by decide +kernel)
theorem dX12_best_96 : decode cX12_best 96 = .ok (.iaload, 1) := dk_46 (by decide +kernel)
theorem dX12_best_97 : decode cX12_best 97 = .ok (.goto 9, 3) := dk_167 0 9 (by decide +kernel)
theorem dX12_best_100 : decode cX12_best 100 = .ok (.aload_n 0, 1) := dk_42 (by decide +kernel)
theorem dX12_best_101 : decode cX12_best 101 = .ok (.getfield 33, 3) := dk_180 0 33 (by decide +kernel)
theorem dX12_best_104 : decode cX12_best 104 = .ok (.iload_n 1, 1) := dk_27 (by decide +kernel)
theorem dX12_best_105 : decode cX12_best 105 = .ok (.iaload, 1) := dk_46 (by decide +kernel)
theorem dX12_best_106 : decode cX12_best 106 = .ok (.ireturn, 1) := dk_172 (by decide +kernel)
theorem dX12_best_107 : decode cX12_best 107 = .ok (.iload_n 2, 1) := dk_28 (by decide +kernel)
theorem dX12_best_108 : decode cX12_best 108 = .ok (.sipush 200, 3) := dk_17 0 200 (by decide +kernel)
theorem dX12_best_111 : decode cX12_best 111 = .ok (.if_icmp .ge 18, 3) := dk_162 0 18 (by decide +kernel)
theorem dX12_best_114 : decode cX12_best 114 = .ok (.aload_n 0, 1) := dk_42 (by decide +kernel)
theorem dX12_best_115 : decode cX12_best 115 = .ok (.getfield 36, 3) := dk_180 0 36 (by decide +kernel)
theorem dX12_best_118 : decode cX12_best 118 = .ok (.bipush 24, 2) := dk_16 24 (by decide +kernel)
theorem dX12_best_120 : decode cX12_best 120 = .ok (.iload_n 1, 1) := dk_27 (by decide +kernel)
theorem dX12_best_121 : decode cX12_best 121 = .ok (.imul, 1) := dk_104 (by decide +kernel)
theorem dX12_best_122 : decode cX12_best 122 = .ok (.iload_n 2, 1) := dk_28 (by decide +kernel)
theorem dX12_best_123 : decode cX12_best 123 = .ok (.iadd, 1) := dk_96 (by decide +kernel)
theorem dX12_best_124 : decode cX12_best 124 = .ok (.bipush 100, 2) := dk_16 100 (by decide +kernel)
theorem dX12_best_126 : decode cX12_best 126 = .ok (.isub, 1) := dk_100 (by decide +kernel)
theorem dX12_best_127 : decode cX12_best 127 = .ok (.iaload, 1) := dk_46 (by decide +kernel)
theorem dX12_best_128 : decode cX12_best 128 = .ok (.ireturn, 1) := dk_172 (by decide +kernel)
theorem dX12_best_129 : decode cX12_best 129 = .ok (.aload_n 0, 1) := dk_42 (by decide +kernel)
theorem dX12_best_130 : decode cX12_best 130 = .ok (.getfield 39, 3) := dk_180 0 39 (by decide +kernel)
theorem dX12_best_133 : decode cX12_best 133 = .ok (.bipush 24, 2) := dk_16 24 (by decide +kernel)
theorem dX12_best_135 : decode cX12_best 135 = .ok (.iload_n 1, 1) := dk_27 (by decide +kernel)
theorem dX12_best_136 : decode cX12_best 136 = .ok (.imul, 1) := dk_104 (by decide +kernel)
theorem dX12_best_137 : decode cX12_best 137 = .ok (.iload_n 2, 1) := dk_28 (by decide +kernel)
theorem dX12_best_138 : decode cX12_best 138 = .ok (.iadd, 1) := dk_96 (by decide +kernel)
theorem dX12_best_139 : decode cX12_best 139 = .ok (.sipush 200, 3) := dk_17 0 200 (by decide +kernel)
theorem dX12_best_142 : decode cX12_best 142 = .ok (.isub, 1) := dk_100 (by decide +kernel)
theorem dX12_best_143 : decode cX12_best 143 = .ok (.iaload, 1) := dk_46 (by decide +kernel)
theorem dX12_best_144 : decode cX12_best 144 = .ok (.istore 5, 2) := dk_54 (by decide +kernel)
theorem dX12_best_146 : decode cX12_best 146 = .ok (.iload 5, 2) := dk_21 (by decide +kernel)
theorem dX12_best_148 : decode cX12_best 148 = .ok (.iload 5, 2) := dk_21 (by decide +kernel)
theorem dX12_best_150 : decode cX12_best 150 = .ok (.iconst 1, 1) := dk_4 (by decide +kernel)
theorem dX12_best_151 : decode cX12_best 151 = .ok (.isub, 1) := dk_100 (by decide +kernel)
theorem dX12_best_152 : decode cX12_best 152 = .ok (.iand, 1) := dk_126 (by decide +kernel)
theorem dX12_best_153 : decode cX12_best 153 = .ok (.ifCond .ne 7, 3) := dk_154 0 7 (by decide +kernel)
theorem dX12_best_156 : decode cX12_best 156 = .ok (.iconst 1, 1) := dk_4 (by decide +kernel)
theorem dX12_best_157 : decode cX12_best 157 = .ok (.goto 4, 3) := dk_167 0 4 (by decide +kernel)
theorem dX12_best_160 : decode cX12_best 160 = .ok (.iconst 0, 1) := dk_3 (by decide +kernel)
theorem dX12_best_161 : decode cX12_best 161 = .ok (.ireturn, 1) := dk_172 (by decide +kernel)
set_option maxRecDepth 8000 in
theorem e_X12_best {g : ch_G} {A R : Nat} (hC : ck_Cx g A R) {d : Nat} {K : Option ck_V → ck_W → Prop} {w : ck_W} {a1 a2 : Int} (h : (0 ≤ a1 ∧ a1 ≤ 5 → (0 ≤ 10 + a1 ∧ 10 + a1 < 1430) ∧ ((ck_i ((w 77 (10 + a1)) * (w 76 0))) ∧ (∀ x4, x4 = (w 77 (10 + a1)) * (w 76 0) → (0 ≤ a2 ∧ a2 ≤ 1 → ck_At (ch_C g A R) (d + 2) mX12_best K 66 [some (.inr (.inr 76)), some (.inl a1), some (.inl a2), none, none, none] [] w) ∧ (¬ (0 ≤ a2 ∧ a2 ≤ 1) → ck_i (99 + x4) ∧ ((100 ≤ a2 ∧ a2 ≤ (99 + x4) → ck_At (ch_C g A R) (d + 2) mX12_best K 66 [some (.inr (.inr 76)), some (.inl a1), some (.inl a2), none, none, none] [] w) ∧ (¬ (100 ≤ a2 ∧ a2 ≤ (99 + x4)) → ck_i (199 + x4) ∧ ((200 ≤ a2 ∧ a2 ≤ (199 + x4) → ck_At (ch_C g A R) (d + 2) mX12_best K 66 [some (.inr (.inr 76)), some (.inl a1), some (.inl a2), none, none, none] [] w) ∧ (¬ (200 ≤ a2 ∧ a2 ≤ (199 + x4)) → K (some (.inl (-1))) w)))))))) ∧ (¬ (0 ≤ a1 ∧ a1 ≤ 5) → K (some (.inl (-1))) w)) : ck_Ex (ch_C g A R) (d + 2) mX12_best [.inr (.inr 76), .inl a1, .inl a2] w K :=
  ck_entry hC.1 [some (.inr (.inr 76)), some (.inl a1), some (.inl a2), none, none, none] (by decide) (Nat.le_of_ble_eq_true rfl) rfl (fun q => q) (ck_in (fun hl => (ck_iload_n 1 rfl 1 dX12_best_0 rfl rfl (have h19 := h; ck_callS 4 rfl [.inl a1] [] dX12_best_1 cs_X12_97 rfl rfl (Nat.le_of_ble_eq_true rfl) (And.intro hl.2.1 True.intro) (p_X12_isSlice hC (fun c17 _ => (ck_if_ne 7 rfl 9 dX12_best_4 rfl (by decide) (fun _ => (ck_aload_n 10 rfl 0 dX12_best_9 rfl rfl (ck_iload_n 11 rfl 1 dX12_best_10 rfl rfl (have h21 := (h19.1 c17); have o1 := h21.1; have h20 := h21.2; (have h23 := h20; have o2 := h23.1; have h22 := h23.2; (ck_callV 14 rfl [.inl a1] [] dX12_best_11 cv_X12_131 sh_76 rfl rfl (Nat.le_of_ble_eq_true rfl) (And.intro hl.2.1 True.intro) (p_X12_places hC o1 o2 (fun q3 => (ck_nmi (fun x4 e5 => (ck_istore_n 15 rfl 3 [some (.inr (.inr 76)), some (.inl a1), some (.inl a2), some (.inl x4), none, none] dX12_best_14 rfl (Nat.le_of_ble_eq_true rfl) rfl rfl (by rw [e5]; exact q3.1) (ck_iload_n 16 rfl 2 dX12_best_15 rfl rfl (ck_iconst 17 rfl dX12_best_16 rfl (ck_iconst 18 rfl dX12_best_17 rfl (have h16 := (h22 x4 e5); ck_callS 21 rfl [.inl a2, .inl 0, .inl 1] [] dX12_best_18 cs_X12_93 rfl rfl (Nat.le_of_ble_eq_true rfl) (And.intro hl.2.2.1 (And.intro (show ck_i 0 by decide) (And.intro (show ck_i 1 by decide) True.intro))) (p_X12_isIn hC (fun c14 _ => (ck_if_ne 24 rfl 52 dX12_best_21 rfl (by decide) (fun _ => (ck_iconst 53 rfl dX12_best_52 rfl (ck_goto 57 dX12_best_53 rfl (ck_istore 59 rfl [some (.inr (.inr 76)), some (.inl a1), some (.inl a2), some (.inl x4), some (.inl 1), none] dX12_best_57 (Nat.le_of_ble_eq_true rfl) rfl rfl (show ck_i 1 by decide) (ck_iload 61 rfl dX12_best_59 rfl (ck_if_ne 64 rfl 66 dX12_best_61 rfl (by decide) (fun _ => (ck_drop [some (.inr (.inr 76)), some (.inl a1), some (.inl a2), none, none, none] (And.intro rfl (And.intro rfl (And.intro rfl True.intro))) (h16.1 c14))) (fun q => absurd q (by decide)))))))) (fun q => absurd q (by decide)))) (fun c15 _ => (ck_if_ne 24 rfl 52 dX12_best_21 rfl (by decide) (fun q => absurd q (by decide)) (fun _ => (ck_iload_n 25 rfl 2 dX12_best_24 rfl rfl (ck_bipush 27 rfl dX12_best_25 rfl (ck_bipush 29 rfl dX12_best_27 rfl (ck_iload_n 30 rfl 3 dX12_best_29 rfl rfl (ck_iadd 31 rfl dX12_best_30 (have h25 := (h16.2 c15); have o6 := h25.1; have h24 := h25.2; (have h13 := h24; ck_callS 34 rfl [.inl a2, .inl 100, .inl (99 + x4)] [] dX12_best_31 cs_X12_93 rfl rfl (Nat.le_of_ble_eq_true rfl) (And.intro hl.2.2.1 (And.intro (show ck_i 100 by decide) (And.intro o6 True.intro))) (p_X12_isIn hC (fun c11 _ => (ck_if_ne 37 rfl 52 dX12_best_34 rfl (by decide) (fun _ => (ck_iconst 53 rfl dX12_best_52 rfl (ck_goto 57 dX12_best_53 rfl (ck_istore 59 rfl [some (.inr (.inr 76)), some (.inl a1), some (.inl a2), some (.inl x4), some (.inl 1), none] dX12_best_57 (Nat.le_of_ble_eq_true rfl) rfl rfl (show ck_i 1 by decide) (ck_iload 61 rfl dX12_best_59 rfl (ck_if_ne 64 rfl 66 dX12_best_61 rfl (by decide) (fun _ => (ck_drop [some (.inr (.inr 76)), some (.inl a1), some (.inl a2), none, none, none] (And.intro rfl (And.intro rfl (And.intro rfl True.intro))) (h13.1 c11))) (fun q => absurd q (by decide)))))))) (fun q => absurd q (by decide)))) (fun c12 _ => (ck_if_ne 37 rfl 52 dX12_best_34 rfl (by decide) (fun q => absurd q (by decide)) (fun _ => (ck_iload_n 38 rfl 2 dX12_best_37 rfl rfl (ck_sipush 41 rfl dX12_best_38 rfl (ck_sipush 44 rfl dX12_best_41 rfl (ck_iload_n 45 rfl 3 dX12_best_44 rfl rfl (ck_iadd 46 rfl dX12_best_45 (have h27 := (h13.2 c12); have o7 := h27.1; have h26 := h27.2; (have h10 := h26; ck_callS 49 rfl [.inl a2, .inl 200, .inl (199 + x4)] [] dX12_best_46 cs_X12_93 rfl rfl (Nat.le_of_ble_eq_true rfl) (And.intro hl.2.2.1 (And.intro (show ck_i 200 by decide) (And.intro o7 True.intro))) (p_X12_isIn hC (fun c8 _ => (ck_if_eq 52 rfl 56 dX12_best_49 rfl (by decide) (fun q => absurd q (by decide)) (fun _ => (ck_iconst 53 rfl dX12_best_52 rfl (ck_goto 57 dX12_best_53 rfl (ck_istore 59 rfl [some (.inr (.inr 76)), some (.inl a1), some (.inl a2), some (.inl x4), some (.inl 1), none] dX12_best_57 (Nat.le_of_ble_eq_true rfl) rfl rfl (show ck_i 1 by decide) (ck_iload 61 rfl dX12_best_59 rfl (ck_if_ne 64 rfl 66 dX12_best_61 rfl (by decide) (fun _ => (ck_drop [some (.inr (.inr 76)), some (.inl a1), some (.inl a2), none, none, none] (And.intro rfl (And.intro rfl (And.intro rfl True.intro))) (h10.1 c8))) (fun q => absurd q (by decide)))))))))) (fun c9 _ => (ck_if_eq 52 rfl 56 dX12_best_49 rfl (by decide) (fun _ => (ck_iconst 57 rfl dX12_best_56 rfl (ck_istore 59 rfl [some (.inr (.inr 76)), some (.inl a1), some (.inl a2), some (.inl x4), some (.inl 0), none] dX12_best_57 (Nat.le_of_ble_eq_true rfl) rfl rfl (show ck_i 0 by decide) (ck_iload 61 rfl dX12_best_59 rfl (ck_if_ne 64 rfl 66 dX12_best_61 rfl (by decide) (fun q => absurd q (by decide)) (fun _ => (ck_iconst 65 rfl dX12_best_64 rfl (ck_iret dX12_best_65 rfl (show ck_i (-1) by decide) (h10.2 c9))))))))) (fun q => absurd q (by decide)))))))))))))))))))))))))))))))))))))))))) (fun q => absurd q (by decide)))) (fun c18 _ => (ck_if_ne 7 rfl 9 dX12_best_4 rfl (by decide) (fun q => absurd q (by decide)) (fun _ => (ck_iconst 8 rfl dX12_best_7 rfl (ck_iret dX12_best_8 rfl (show ck_i (-1) by decide) (h19.2 c18)))))))))))
set_option maxRecDepth 8000 in
theorem r_X12_best_66 {g : ch_G} {A R : Nat} (hC : ck_Cx g A R) {d : Nat} {K : Option ck_V → ck_W → Prop} {w : ck_W} {a1 a2 : Int} (h : ck_CN (ch_C g A R) (d + 1) mX12_wind [.inr (.inr 76), .inl a1] w (fun w1 => (0 ≤ a1 ∧ a1 < 6) ∧ ((0 ≤ (w1 83 a1) → (2 ≤ a2 → (200 ≤ a2 → (0 ≤ (((24 * a1) + a2) - 200) ∧ (((24 * a1) + a2) - 200) < 144) ∧ (∀ x6, x6 = w1 86 (((24 * a1) + a2) - 200) → (¬ (ck_and x6 (x6 - 1)) = 0 → K (some (.inl 0)) w1) ∧ ((ck_and x6 (x6 - 1)) = 0 → K (some (.inl 1)) w1))) ∧ (¬ 200 ≤ a2 → (0 ≤ (((24 * a1) + a2) - 100) ∧ (((24 * a1) + a2) - 100) < 144) ∧ (K (some (.inl (w1 85 (((24 * a1) + a2) - 100)))) w1))) ∧ (¬ 2 ≤ a2 → (¬ a2 = 0 → K (some (.inl (w1 84 a1))) w1) ∧ (a2 = 0 → K (some (.inl (w1 83 a1))) w1))) ∧ (¬ 0 ≤ (w1 83 a1) → K (some (.inl (-1))) w1)))) : ck_At (ch_C g A R) (d + 2) mX12_best K 66 [some (.inr (.inr 76)), some (.inl a1), some (.inl a2), none, none, none] [] w :=
  ck_in (fun hl => (ck_aload_n 67 rfl 0 dX12_best_66 rfl rfl (ck_iload_n 68 rfl 1 dX12_best_67 rfl rfl (ck_callV 71 rfl [.inl a1] [] dX12_best_68 cv_X12_154 sh_76 rfl rfl (Nat.le_of_ble_eq_true rfl) (And.intro hl.2.1 True.intro) (ck_mN h (fun w1 h22 => (ck_aload_n 72 rfl 0 dX12_best_71 rfl rfl (ck_getr 75 rfl dX12_best_72 fl_X12_30 sh_76 rfl (ck_iload_n 76 rfl 1 dX12_best_75 rfl rfl (have h24 := h22; have o2 := h24.1; have h23 := h24.2; (ck_iald 77 rfl dX12_best_76 sh_83 (shn_83 hC) o2 _ rfl (fun (q3 : ck_i (w1 83 a1)) => (ck_if_ge 80 rfl 82 dX12_best_77 rfl q3 (fun c20 => (ck_iload_n 83 rfl 2 dX12_best_82 rfl rfl (ck_iconst 84 rfl dX12_best_83 rfl (have h25 := (h23.1 c20); (ck_icmp_ge 87 rfl 107 dX12_best_84 rfl hl.2.2.1 (show ck_i 2 by decide) (fun c18 => (ck_iload_n 108 rfl 2 dX12_best_107 rfl rfl (ck_sipush 111 rfl dX12_best_108 rfl (have h26 := (h25.1 c18); (ck_icmp_ge 114 rfl 129 dX12_best_111 rfl hl.2.2.1 (show ck_i 200 by decide) (fun c12 => (ck_aload_n 130 rfl 0 dX12_best_129 rfl rfl (ck_getr 133 rfl dX12_best_130 fl_X12_39 sh_76 rfl (ck_bipush 135 rfl dX12_best_133 rfl (ck_iload_n 136 rfl 1 dX12_best_135 rfl rfl (ck_imul 137 rfl dX12_best_136 (ck_iload_n 138 rfl 2 dX12_best_137 rfl rfl (ck_iadd 139 rfl dX12_best_138 (ck_sipush 142 rfl dX12_best_139 rfl (ck_isub 143 rfl dX12_best_142 (have h28 := (h26.1 c12); have o4 := h28.1; have h27 := h28.2; (ck_iald 144 rfl dX12_best_143 sh_86 (shn_86 hC) o4 _ rfl (fun (q5 : ck_i (w1 86 (((24 * a1) + a2) - 200))) => (ck_nmi (fun x6 e7 => (ck_istore 146 rfl [some (.inr (.inr 76)), some (.inl a1), some (.inl a2), none, none, some (.inl x6)] dX12_best_144 (Nat.le_of_ble_eq_true rfl) rfl rfl (by rw [e7]; exact q5) (ck_iload 148 rfl dX12_best_146 rfl (ck_iload 150 rfl dX12_best_148 rfl (ck_iconst 151 rfl dX12_best_150 rfl (ck_isub 152 rfl dX12_best_151 (ck_iand 153 rfl dX12_best_152 (have h29 := (h27 x6 e7); (ck_if_ne 156 rfl 160 dX12_best_153 rfl (ck_rng _) (fun c8 => (ck_iconst 161 rfl dX12_best_160 rfl (ck_iret dX12_best_161 rfl (show ck_i 0 by decide) (h29.1 c8)))) (fun c9 => (ck_iconst 157 rfl dX12_best_156 rfl (ck_goto 161 dX12_best_157 rfl (ck_iret dX12_best_161 rfl (show ck_i 1 by decide) (h29.2 c9)))))))))))))))))))))))))))) (fun c13 => (ck_aload_n 115 rfl 0 dX12_best_114 rfl rfl (ck_getr 118 rfl dX12_best_115 fl_X12_36 sh_76 rfl (ck_bipush 120 rfl dX12_best_118 rfl (ck_iload_n 121 rfl 1 dX12_best_120 rfl rfl (ck_imul 122 rfl dX12_best_121 (ck_iload_n 123 rfl 2 dX12_best_122 rfl rfl (ck_iadd 124 rfl dX12_best_123 (ck_bipush 126 rfl dX12_best_124 rfl (ck_isub 127 rfl dX12_best_126 (have h31 := (h26.2 c13); have o10 := h31.1; have h30 := h31.2; (ck_iald 128 rfl dX12_best_127 sh_85 (shn_85 hC) o10 _ rfl (fun (q11 : ck_i (w1 85 (((24 * a1) + a2) - 100))) => (ck_iret dX12_best_128 rfl q11 h30))))))))))))))))))) (fun c19 => (ck_iload_n 88 rfl 2 dX12_best_87 rfl rfl (have h32 := (h25.2 c19); (ck_if_ne 91 rfl 100 dX12_best_88 rfl hl.2.2.1 (fun c16 => (ck_aload_n 101 rfl 0 dX12_best_100 rfl rfl (ck_getr 104 rfl dX12_best_101 fl_X12_33 sh_76 rfl (ck_iload_n 105 rfl 1 dX12_best_104 rfl rfl (ck_iald 106 rfl dX12_best_105 sh_84 (shn_84 hC) o2 _ rfl (fun (q14 : ck_i (w1 84 a1)) => (ck_iret dX12_best_106 rfl q14 (h32.1 c16)))))))) (fun c17 => (ck_aload_n 92 rfl 0 dX12_best_91 rfl rfl (ck_getr 95 rfl dX12_best_92 fl_X12_30 sh_76 rfl (ck_iload_n 96 rfl 1 dX12_best_95 rfl rfl (ck_iald 97 rfl dX12_best_96 sh_83 (shn_83 hC) o2 _ rfl (fun (q15 : ck_i (w1 83 a1)) => (ck_goto 106 dX12_best_97 rfl (ck_iret dX12_best_106 rfl q15 (h32.2 c17)))))))))))))))))) (fun c21 => (ck_iconst 81 rfl dX12_best_80 rfl (ck_iret dX12_best_81 rfl (show ck_i (-1) by decide) (h23.2 c21)))))))))))))))))
theorem M_best {g : ch_G} {A R : Nat} (hC : ck_Cx g A R) {d : Nat} {K : Option ck_V → ck_W → Prop} {w : ck_W} {a1 a2 : Int} (hI : rm_I A R w) (h : ∀ v w', rm_q w w' → K (some (.inl v)) w') : ck_Ex (ch_C g A R) (d + 6) mX12_best [.inr (.inr 76), .inl a1, .inl a2] w K := by
  have c := rm_cp hC hI
  have nn : (0 ≤ a1 ∧ a1 ≤ 5) → (0 ≤ a2 ∧ a2 ≤ 1) ∨ (100 ≤ a2 ∧ a2 ≤ 123) ∨ (200 ≤ a2 ∧ a2 ≤ 223) → ck_At (ch_C g A R) (d + 6) mX12_best K 66 [some (.inr (.inr 76)), some (.inl a1), some (.inl a2), none, none, none] [] w := fun q1 q2 => by
    refine r_X12_best_66 hC (S_X12_wind hC hI q1 (fun w' i1 i2 i3 i4 => ⟨rfl, ?_⟩))
    have qq := rm_q_wf i1
    refine ⟨by omega, fun _ => ⟨fun y => ⟨fun y2 => ⟨by omega, fun x _ => ⟨fun _ => h _ _ qq, fun _ => h _ _ qq⟩⟩, fun y2 => ⟨by omega, h _ _ qq⟩⟩, fun y => ⟨fun _ => h _ _ qq, fun _ => h _ _ qq⟩⟩, fun _ => h _ _ qq⟩
  refine e_X12_best hC ⟨fun q1 => ?_, fun _ => h _ _ rm_q_rf⟩
  have pb := rm_pb hC hI q1.1 q1.2
  refine ⟨by omega, by constructor <;> omega, fun x ex => ⟨fun q2 => nn q1 (Or.inl q2), fun _ => ⟨by constructor <;> omega, fun q2 => nn q1 (by omega), fun _ => ⟨by constructor <;> omega, fun q2 => nn q1 (by omega), fun _ => h _ _ rm_q_rf⟩⟩⟩⟩
/-- all slices with k turns have spirals -/
def rm_wk (R : Nat) (k i : Int) (w : ck_W) : Prop := ∀ z, 0 ≤ z → z ≤ 5 → k ≤ w 77 (10 + z) → 0 ≤ w 85 (24 * z + i) ∧ w 85 (24 * z + i) < (R : Int)
theorem dX12_stretch_0 : decode cX12_stretch 0 = .ok (.iconst 0, 1) := dk_3 (by decide +kernel)
theorem dX12_stretch_1 : decode cX12_stretch 1 = .ok (.istore 4, 2) := dk_54 (by decide +kernel)
theorem dX12_stretch_3 : decode cX12_stretch 3 = .ok (.iconst 0, 1) := dk_3 (by decide +kernel)
theorem dX12_stretch_4 : decode cX12_stretch 4 = .ok (.istore 5, 2) := dk_54 (by decide +kernel)
theorem dX12_stretch_6 : decode cX12_stretch 6 = .ok (.iload 5, 2) := dk_21 (by decide +kernel)
theorem dX12_stretch_8 : decode cX12_stretch 8 = .ok (.bipush 6, 2) := dk_16 6 (by decide +kernel)
theorem dX12_stretch_10 : decode cX12_stretch 10 = .ok (.if_icmp .ge 47, 3) := dk_162 0 47 (by decide +kernel)
theorem dX12_stretch_13 : decode cX12_stretch 13 = .ok (.aload_n 0, 1) := dk_42 (by decide +kernel)
theorem dX12_stretch_14 : decode cX12_stretch 14 = .ok (.getfield 7, 3) := dk_180 0 7 (by decide +kernel)
theorem dX12_stretch_17 : decode cX12_stretch 17 = .ok (.bipush 10, 2) := dk_16 10 (by decide +kernel)
theorem dX12_stretch_19 : decode cX12_stretch 19 = .ok (.iload 5, 2) := dk_21 (by decide +kernel)
theorem dX12_stretch_21 : decode cX12_stretch 21 = .ok (.iadd, 1) := dk_96 (by decide +kernel)
theorem dX12_stretch_22 : decode cX12_stretch 22 = .ok (.iaload, 1) := dk_46 (by decide +kernel)
theorem dX12_stretch_23 : decode cX12_stretch 23 = .ok (.iload_n 1, 1) := dk_27 (by decide +kernel)
theorem dX12_stretch_24 : decode cX12_stretch 24 = .ok (.if_icmp .lt 27, 3) := dk_161 0 27 (by decide +kernel)
theorem dX12_stretch_27 : decode cX12_stretch 27 = .ok (.iload 4, 2) := dk_21 (by decide +kernel)
theorem dX12_stretch_29 : decode cX12_stretch 29 = .ok (.aload_n 0, 1) := dk_42 (by decide +kernel)
theorem dX12_stretch_30 : decode cX12_stretch 30 = .ok (.getfield 36, 3) := dk_180 0 36 (by decide +kernel)
theorem dX12_stretch_33 : decode cX12_stretch 33 = .ok (.bipush 24, 2) := dk_16 24 (by decide +kernel)
theorem dX12_stretch_35 : decode cX12_stretch 35 = .ok (.iload 5, 2) := dk_21 (by decide +kernel)
theorem dX12_stretch_37 : decode cX12_stretch 37 = .ok (.imul, 1) := dk_104 (by decide +kernel)
theorem dX12_stretch_38 : decode cX12_stretch 38 = .ok (.iload_n 2, 1) := dk_28 (by decide +kernel)
theorem dX12_stretch_39 : decode cX12_stretch 39 = .ok (.iadd, 1) := dk_96 (by decide +kernel)
theorem dX12_stretch_40 : decode cX12_stretch 40 = .ok (.iaload, 1) := dk_46 (by decide +kernel)
theorem dX12_stretch_41 : decode cX12_stretch 41 = .ok (.iconst 1, 1) := dk_4 (by decide +kernel)
theorem dX12_stretch_42 : decode cX12_stretch 42 = .ok (.iadd, 1) := dk_96 (by decide +kernel)
theorem dX12_stretch_43 : decode cX12_stretch 43 = .ok (.iload_n 3, 1) := dk_29 (by decide +kernel)
theorem dX12_stretch_44 : decode cX12_stretch 44 = .ok (.isub, 1) := dk_100 (by decide +kernel)
theorem dX12_stretch_45 : decode cX12_stretch 45 = .ok (.invokestatic 158, 3) := dk_184 0 158 (by decide +kernel)
theorem dX12_stretch_48 : decode cX12_stretch 48 = .ok (.iadd, 1) := dk_96 (by decide +kernel)
theorem dX12_stretch_49 : decode cX12_stretch 49 = .ok (.istore 4, 2) := dk_54 (by decide +kernel)
theorem dX12_stretch_51 : decode cX12_stretch 51 = .ok (.iinc 5 1, 3) := dk_132 1 (by decide +kernel)
theorem dX12_stretch_54 : decode cX12_stretch 54 = .ok (.goto (-48), 3) := dk_167 255 208 (by decide +kernel)
theorem dX12_stretch_57 : decode cX12_stretch 57 = .ok (.iload 4, 2) := dk_21 (by decide +kernel)
theorem dX12_stretch_59 : decode cX12_stretch 59 = .ok (.ireturn, 1) := dk_172 (by decide +kernel)
set_option maxRecDepth 8000 in
theorem e_X12_stretch {g : ch_G} {A R : Nat} (hC : ck_Cx g A R) {d : Nat} {K : Option ck_V → ck_W → Prop} {w : ck_W} {a1 a2 a3 : Int} (h : ck_At (ch_C g A R) (d + 1) mX12_stretch K 6 [some (.inr (.inr 76)), some (.inl a1), some (.inl a2), some (.inl a3), some (.inl 0), some (.inl 0)] [] w) : ck_Ex (ch_C g A R) (d + 1) mX12_stretch [.inr (.inr 76), .inl a1, .inl a2, .inl a3] w K :=
  ck_entry hC.1 [some (.inr (.inr 76)), some (.inl a1), some (.inl a2), some (.inl a3), none, none] (by decide) (Nat.le_of_ble_eq_true rfl) rfl (fun q => q) (ck_in (fun hl => (ck_iconst 1 rfl dX12_stretch_0 rfl (ck_istore 3 rfl [some (.inr (.inr 76)), some (.inl a1), some (.inl a2), some (.inl a3), some (.inl 0), none] dX12_stretch_1 (Nat.le_of_ble_eq_true rfl) rfl rfl (show ck_i 0 by decide) (ck_iconst 4 rfl dX12_stretch_3 rfl (ck_istore 6 rfl [some (.inr (.inr 76)), some (.inl a1), some (.inl a2), some (.inl a3), some (.inl 0), some (.inl 0)] dX12_stretch_4 (Nat.le_of_ble_eq_true rfl) rfl rfl (show ck_i 0 by decide) h))))))
set_option maxRecDepth 8000 in
theorem r_X12_stretch_6 {g : ch_G} {A R : Nat} (hC : ck_Cx g A R) {d : Nat} {K : Option ck_V → ck_W → Prop} {w : ck_W} {a1 a2 a3 a4 a5 : Int} (h : (6 ≤ a5 → K (some (.inl a4)) w) ∧ (¬ 6 ≤ a5 → (0 ≤ (10 + a5) ∧ (10 + a5) < 1430) ∧ (((w 77 (10 + a5)) < a1 → ck_i (a5 + 1) ∧ (ck_At (ch_C g A R) (d + 1) mX12_stretch K 6 [some (.inr (.inr 76)), some (.inl a1), some (.inl a2), some (.inl a3), some (.inl a4), some (.inl (a5 + 1))] [] w)) ∧ (¬ (w 77 (10 + a5)) < a1 → (0 ≤ ((24 * a5) + a2) ∧ ((24 * a5) + a2) < 144) ∧ (ck_i (((w 85 ((24 * a5) + a2)) + 1) - a3) ∧ ((-2147483647 ≤ (((w 85 ((24 * a5) + a2)) + 1) - a3)) ∧ (∀ x9, x9 = a4 + (max (((w 85 ((24 * a5) + a2)) + 1) - a3) (-(((w 85 ((24 * a5) + a2)) + 1) - a3))) → ck_i x9 ∧ (ck_i (a5 + 1) ∧ (ck_At (ch_C g A R) (d + 1) mX12_stretch K 6 [some (.inr (.inr 76)), some (.inl a1), some (.inl a2), some (.inl a3), some (.inl x9), some (.inl (a5 + 1))] [] w))))))))) : ck_At (ch_C g A R) (d + 1) mX12_stretch K 6 [some (.inr (.inr 76)), some (.inl a1), some (.inl a2), some (.inl a3), some (.inl a4), some (.inl a5)] [] w :=
  ck_in (fun hl => (ck_iload 8 rfl dX12_stretch_6 rfl (ck_bipush 10 rfl dX12_stretch_8 rfl (ck_icmp_ge 13 rfl 57 dX12_stretch_10 rfl hl.2.2.2.2.2.1 (show ck_i 6 by decide) (fun c15 => (ck_iload 59 rfl dX12_stretch_57 rfl (ck_iret dX12_stretch_59 rfl hl.2.2.2.2.1 (h.1 c15)))) (fun c16 => (ck_aload_n 14 rfl 0 dX12_stretch_13 rfl rfl (ck_getr 17 rfl dX12_stretch_14 fl_X12_7 sh_76 rfl (ck_bipush 19 rfl dX12_stretch_17 rfl (ck_iload 21 rfl dX12_stretch_19 rfl (ck_iadd 22 rfl dX12_stretch_21 (have h18 := (h.2 c16); have o1 := h18.1; have h17 := h18.2; (ck_iald 23 rfl dX12_stretch_22 sh_77 (shn_77 hC) o1 _ rfl (fun (q2 : ck_i (w 77 (10 + a5))) => (ck_iload_n 24 rfl 1 dX12_stretch_23 rfl rfl (ck_icmp_lt 27 rfl 51 dX12_stretch_24 rfl q2 hl.2.1 (fun c13 => (have h20 := (h17.1 c13); have o3 := h20.1; have h19 := h20.2; (ck_iinc 54 rfl [some (.inr (.inr 76)), some (.inl a1), some (.inl a2), some (.inl a3), some (.inl a4), some (.inl (a5 + 1))] dX12_stretch_51 rfl (Nat.le_of_ble_eq_true rfl) rfl rfl o3 (ck_goto 6 dX12_stretch_54 rfl h19)))) (fun c14 => (ck_iload 29 rfl dX12_stretch_27 rfl (ck_aload_n 30 rfl 0 dX12_stretch_29 rfl rfl (ck_getr 33 rfl dX12_stretch_30 fl_X12_36 sh_76 rfl (ck_bipush 35 rfl dX12_stretch_33 rfl (ck_iload 37 rfl dX12_stretch_35 rfl (ck_imul 38 rfl dX12_stretch_37 (ck_iload_n 39 rfl 2 dX12_stretch_38 rfl rfl (ck_iadd 40 rfl dX12_stretch_39 (have h22 := (h17.2 c14); have o4 := h22.1; have h21 := h22.2; (ck_iald 41 rfl dX12_stretch_40 sh_85 (shn_85 hC) o4 _ rfl (fun (q5 : ck_i (w 85 ((24 * a5) + a2))) => (ck_iconst 42 rfl dX12_stretch_41 rfl (ck_iadd 43 rfl dX12_stretch_42 (ck_iload_n 44 rfl 3 dX12_stretch_43 rfl rfl (ck_isub 45 rfl dX12_stretch_44 (have h24 := h21; have o6 := h24.1; have h23 := h24.2; (have h26 := h23; have o7 := h26.1; have h25 := h26.2; (ck_callS 48 rfl [.inl (((w 85 ((24 * a5) + a2)) + 1) - a3)] [.inl a4] dX12_stretch_45 cs_X12_158 rfl rfl (Nat.le_of_ble_eq_true rfl) (And.intro o6 True.intro) (p_X12_abs hC o7 (fun q8 => (ck_iadd 49 rfl dX12_stretch_48 (ck_nmi (fun x9 e10 => (have h28 := (h25 x9 e10); have o11 := h28.1; have h27 := h28.2; (ck_istore 51 rfl [some (.inr (.inr 76)), some (.inl a1), some (.inl a2), some (.inl a3), some (.inl x9), some (.inl a5)] dX12_stretch_49 (Nat.le_of_ble_eq_true rfl) rfl rfl o11 (have h30 := h27; have o12 := h30.1; have h29 := h30.2; (ck_iinc 54 rfl [some (.inr (.inr 76)), some (.inl a1), some (.inl a2), some (.inl a3), some (.inl x9), some (.inl (a5 + 1))] dX12_stretch_51 rfl (Nat.le_of_ble_eq_true rfl) rfl rfl o12 (ck_goto 6 dX12_stretch_54 rfl h29))))))))))))))))))))))))))))))))))))))))))))
theorem S_X12_stretch {g : ch_G} {A R : Nat} (hC : ck_Cx g A R) {d : Nat} {K : Option ck_V → ck_W → Prop} {w : ck_W} {a1 a2 a3 : Int} (hI : rm_I A R w) (h2 : 0 ≤ a2 ∧ a2 ≤ 23) (h3 : -1 ≤ a3 ∧ a3 ≤ 100) (hk : rm_wk R a1 a2 w) (h : ∀ v, 0 ≤ v ∧ v ≤ 1000 → K (some (.inl v)) w) : ck_Ex (ch_C g A R) (d + 1) mX12_stretch [.inr (.inr 76), .inl a1, .inl a2, .inl a3] w K := by
  have c := rm_cp hC hI
  have l : ∀ (m : Nat) (a4 a5 : Int), 6 - a5 = m → 0 ≤ a5 → (0 ≤ a4 ∧ a4 ≤ 150 * a5) → ck_At (ch_C g A R) (d + 1) mX12_stretch K 6 [some (.inr (.inr 76)), some (.inl a1), some (.inl a2), some (.inl a3), some (.inl a4), some (.inl a5)] [] w := by
    intro m
    induction m with
    | zero =>
      intro a4 a5 q1 q2 q3
      exact r_X12_stretch_6 hC ⟨fun _ => h a4 (by omega), fun z => absurd (by omega) z⟩
    | succ m ih =>
      intro a4 a5 q1 q2 q3
      refine r_X12_stretch_6 hC ⟨fun z => absurd z (by omega), fun _ => ⟨by omega, fun _ => ⟨by constructor <;> omega, ih _ _ (by omega) (by omega) (by omega)⟩, fun z => ?_⟩⟩
      have b := hk a5 q2 (by omega) (by omega)
      exact ⟨by omega, by constructor <;> omega, by omega, fun x ex => ⟨by constructor <;> omega, by constructor <;> omega, ih _ _ (by omega) (by omega) (by omega)⟩⟩
  exact e_X12_stretch hC (l 6 0 0 (by omega) (by omega) (by omega))
theorem dX12_widthOf_0 : decode cX12_widthOf 0 = .ok (.iconst (-1), 1) := dk_2 (by decide +kernel)
theorem dX12_widthOf_1 : decode cX12_widthOf 1 = .ok (.istore_n 3, 1) := dk_62 (by decide +kernel)
theorem dX12_widthOf_2 : decode cX12_widthOf 2 = .ok (.iconst 0, 1) := dk_3 (by decide +kernel)
theorem dX12_widthOf_3 : decode cX12_widthOf 3 = .ok (.istore 4, 2) := dk_54 (by decide +kernel)
theorem dX12_widthOf_5 : decode cX12_widthOf 5 = .ok (.iload 4, 2) := dk_21 (by decide +kernel)
theorem dX12_widthOf_7 : decode cX12_widthOf 7 = .ok (.bipush 6, 2) := dk_16 6 (by decide +kernel)
theorem dX12_widthOf_9 : decode cX12_widthOf 9 = .ok (.if_icmp .ge 91, 3) := dk_162 0 91 (by decide +kernel)
theorem dX12_widthOf_12 : decode cX12_widthOf 12 = .ok (.aload_n 0, 1) := dk_42 (by decide +kernel)
theorem dX12_widthOf_13 : decode cX12_widthOf 13 = .ok (.getfield 7, 3) := dk_180 0 7 (by decide +kernel)
theorem dX12_widthOf_16 : decode cX12_widthOf 16 = .ok (.bipush 10, 2) := dk_16 10 (by decide +kernel)
theorem dX12_widthOf_18 : decode cX12_widthOf 18 = .ok (.iload 4, 2) := dk_21 (by decide +kernel)
theorem dX12_widthOf_20 : decode cX12_widthOf 20 = .ok (.iadd, 1) := dk_96 (by decide +kernel)
theorem dX12_widthOf_21 : decode cX12_widthOf 21 = .ok (.iaload, 1) := dk_46 (by decide +kernel)
theorem dX12_widthOf_22 : decode cX12_widthOf 22 = .ok (.iload_n 1, 1) := dk_27 (by decide +kernel)
theorem dX12_widthOf_23 : decode cX12_widthOf 23 = .ok (.if_icmp .ge 6, 3) := dk_162 0 6 (by decide +kernel)
theorem dX12_widthOf_26 : decode cX12_widthOf 26 = .ok (.goto 68, 3) := dk_167 0 68 (by decide +kernel)
theorem dX12_widthOf_29 : decode cX12_widthOf 29 = .ok (.aload_n 0, 1) := dk_42 (by decide +kernel)
theorem dX12_widthOf_30 : decode cX12_widthOf 30 = .ok (.getfield 36, 3) := dk_180 0 36 (by decide +kernel)
theorem dX12_widthOf_33 : decode cX12_widthOf 33 = .ok (.bipush 24, 2) := dk_16 24 (by decide +kernel)
theorem dX12_widthOf_35 : decode cX12_widthOf 35 = .ok (.iload 4, 2) := dk_21 (by decide +kernel)
theorem dX12_widthOf_37 : decode cX12_widthOf 37 = .ok (.imul, 1) := dk_104 (by decide +kernel)
theorem dX12_widthOf_38 : decode cX12_widthOf 38 = .ok (.iload_n 2, 1) := dk_28 (by decide +kernel)
theorem dX12_widthOf_39 : decode cX12_widthOf 39 = .ok (.iadd, 1) := dk_96 (by decide +kernel)
theorem dX12_widthOf_40 : decode cX12_widthOf 40 = .ok (.iaload, 1) := dk_46 (by decide +kernel)
theorem dX12_widthOf_41 : decode cX12_widthOf 41 = .ok (.iconst 1, 1) := dk_4 (by decide +kernel)
theorem dX12_widthOf_42 : decode cX12_widthOf 42 = .ok (.iadd, 1) := dk_96 (by decide +kernel)
theorem dX12_widthOf_43 : decode cX12_widthOf 43 = .ok (.istore 5, 2) := dk_54 (by decide +kernel)
theorem dX12_widthOf_45 : decode cX12_widthOf 45 = .ok (.iload_n 3, 1) := dk_29 (by decide +kernel)
theorem dX12_widthOf_46 : decode cX12_widthOf 46 = .ok (.ifCond .lt 45, 3) := dk_155 0 45 (by decide +kernel)
theorem dX12_widthOf_49 : decode cX12_widthOf 49 = .ok (.aload_n 0, 1) := dk_42 (by decide +kernel)
theorem dX12_widthOf_50 : decode cX12_widthOf 50 = .ok (.iload_n 1, 1) := dk_27 (by decide +kernel)
theorem dX12_widthOf_51 : decode cX12_widthOf 51 = .ok (.iload_n 2, 1) := dk_28 (by decide +kernel)
theorem dX12_widthOf_52 : decode cX12_widthOf 52 = .ok (.iload 5, 2) := dk_21 (by decide +kernel)
theorem dX12_widthOf_54 : decode cX12_widthOf 54 = .ok (.invokevirtual 168, 3) := dk_182 0 168 (by decide +kernel)
theorem dX12_widthOf_57 : decode cX12_widthOf 57 = .ok (.aload_n 0, 1) := dk_42 (by decide +kernel)
theorem dX12_widthOf_58 : decode cX12_widthOf 58 = .ok (.iload_n 1, 1) := dk_27 (by decide +kernel)
theorem dX12_widthOf_59 : decode cX12_widthOf 59 = .ok (.iload_n 2, 1) := dk_28 (by decide +kernel)
theorem dX12_widthOf_60 : decode cX12_widthOf 60 = .ok (.iload_n 3, 1) := dk_29 (by decide +kernel)
theorem dX12_widthOf_61 : decode cX12_widthOf 61 = .ok (.invokevirtual 168, 3) := dk_182 0 168 (by decide +kernel)
theorem dX12_widthOf_64 : decode cX12_widthOf 64 = .ok (.if_icmp .lt 27, 3) := dk_161 0 27 (by decide +kernel)
theorem dX12_widthOf_67 : decode cX12_widthOf 67 = .ok (.aload_n 0, 1) := dk_42 (by decide +kernel)
theorem dX12_widthOf_68 : decode cX12_widthOf 68 = .ok (.iload_n 1, 1) := dk_27 (by decide +kernel)
theorem dX12_widthOf_69 : decode cX12_widthOf 69 = .ok (.iload_n 2, 1) := dk_28 (by decide +kernel)
theorem dX12_widthOf_70 : decode cX12_widthOf 70 = .ok (.iload 5, 2) := dk_21 (by decide +kernel)
theorem dX12_widthOf_72 : decode cX12_widthOf 72 = .ok (.invokevirtual 168, 3) := dk_182 0 168 (by decide +kernel)
theorem dX12_widthOf_75 : decode cX12_widthOf 75 = .ok (.aload_n 0, 1) := dk_42 (by decide +kernel)
theorem dX12_widthOf_76 : decode cX12_widthOf 76 = .ok (.iload_n 1, 1) := dk_27 (by decide +kernel)
theorem dX12_widthOf_77 : decode cX12_widthOf 77 = .ok (.iload_n 2, 1) := dk_28 (by decide +kernel)
theorem dX12_widthOf_78 : decode cX12_widthOf 78 = .ok (.iload_n 3, 1) := dk_29 (by decide +kernel)
theorem dX12_widthOf_79 : decode cX12_widthOf 79 = .ok (.invokevirtual 168, 3) := dk_182 0 168 (by decide +kernel)
theorem dX12_widthOf_82 : decode cX12_widthOf 82 = .ok (.if_icmp .ne 12, 3) := dk_160 0 12 (by decide +kernel)
theorem dX12_widthOf_85 : decode cX12_widthOf 85 = .ok (.iload 5, 2) := dk_21 (by decide +kernel)
theorem dX12_widthOf_87 : decode cX12_widthOf 87 = .ok (.iload_n 3, 1) := dk_29 (by decide +kernel)
theorem dX12_widthOf_88 : decode cX12_widthOf 88 = .ok (.if_icmp .ge 6, 3) := dk_162 0 6 (by decide +kernel)
theorem dX12_widthOf_91 : decode cX12_widthOf 91 = .ok (.iload 5, 2) := dk_21 (by decide +kernel)
theorem dX12_widthOf_93 : decode cX12_widthOf 93 = .ok (.istore_n 3, 1) := dk_62 (by decide +kernel)
theorem dX12_widthOf_94 : decode cX12_widthOf 94 = .ok (.iinc 4 1, 3) := dk_132 1 (by decide +kernel)
theorem dX12_widthOf_97 : decode cX12_widthOf 97 = .ok (.goto (-92), 3) := dk_167 255 164 (by decide +kernel)
theorem dX12_widthOf_100 : decode cX12_widthOf 100 = .ok (.iload_n 3, 1) := dk_29 (by decide +kernel)
theorem dX12_widthOf_101 : decode cX12_widthOf 101 = .ok (.ireturn, 1) := dk_172 (by decide +kernel)
set_option maxRecDepth 8000 in
theorem e_X12_widthOf {g : ch_G} {A R : Nat} (hC : ck_Cx g A R) {d : Nat} {K : Option ck_V → ck_W → Prop} {w : ck_W} {a1 a2 : Int} (h : ck_At (ch_C g A R) (d + 1) mX12_widthOf K 5 [some (.inr (.inr 76)), some (.inl a1), some (.inl a2), some (.inl (-1)), some (.inl 0), none] [] w) : ck_Ex (ch_C g A R) (d + 1) mX12_widthOf [.inr (.inr 76), .inl a1, .inl a2] w K :=
  ck_entry hC.1 [some (.inr (.inr 76)), some (.inl a1), some (.inl a2), none, none, none] (by decide) (Nat.le_of_ble_eq_true rfl) rfl (fun q => q) (ck_in (fun hl => (ck_iconst 1 rfl dX12_widthOf_0 rfl (ck_istore_n 2 rfl 3 [some (.inr (.inr 76)), some (.inl a1), some (.inl a2), some (.inl (-1)), none, none] dX12_widthOf_1 rfl (Nat.le_of_ble_eq_true rfl) rfl rfl (show ck_i (-1) by decide) (ck_iconst 3 rfl dX12_widthOf_2 rfl (ck_istore 5 rfl [some (.inr (.inr 76)), some (.inl a1), some (.inl a2), some (.inl (-1)), some (.inl 0), none] dX12_widthOf_3 (Nat.le_of_ble_eq_true rfl) rfl rfl (show ck_i 0 by decide) h))))))
set_option maxRecDepth 8000 in
theorem r_X12_widthOf_5 {g : ch_G} {A R : Nat} (hC : ck_Cx g A R) {d : Nat} {K : Option ck_V → ck_W → Prop} {w : ck_W} {a1 a2 a3 a4 : Int} (h : (6 ≤ a4 → K (some (.inl a3)) w) ∧ (¬ 6 ≤ a4 → (0 ≤ (10 + a4) ∧ (10 + a4) < 1430) ∧ ((a1 ≤ (w 77 (10 + a4)) → (0 ≤ ((24 * a4) + a2) ∧ ((24 * a4) + a2) < 144) ∧ (∀ x5, x5 = (w 85 ((24 * a4) + a2)) + 1 → ck_i x5 ∧ ((a3 < 0 → ck_i (a4 + 1) ∧ (ck_At (ch_C g A R) (d + 1) mX12_widthOf K 5 [some (.inr (.inr 76)), some (.inl a1), some (.inl a2), some (.inl x5), some (.inl (a4 + 1)), none] [] w)) ∧ (¬ a3 < 0 → ck_CI (ch_C g A R) d mX12_stretch [.inr (.inr 76), .inl a1, .inl a2, .inl x5] w (fun v10 w9 => ck_CI (ch_C g A R) d mX12_stretch [.inr (.inr 76), .inl a1, .inl a2, .inl a3] w9 (fun v14 w13 => (v10 < v14 → ck_i (a4 + 1) ∧ (ck_At (ch_C g A R) (d + 1) mX12_widthOf K 5 [some (.inr (.inr 76)), some (.inl a1), some (.inl a2), some (.inl x5), some (.inl (a4 + 1)), none] [] w13)) ∧ (¬ v10 < v14 → ck_CI (ch_C g A R) d mX12_stretch [.inr (.inr 76), .inl a1, .inl a2, .inl x5] w13 (fun v19 w18 => ck_CI (ch_C g A R) d mX12_stretch [.inr (.inr 76), .inl a1, .inl a2, .inl a3] w18 (fun v23 w22 => (¬ v19 = v23 → ck_i (a4 + 1) ∧ (ck_At (ch_C g A R) (d + 1) mX12_widthOf K 5 [some (.inr (.inr 76)), some (.inl a1), some (.inl a2), some (.inl a3), some (.inl (a4 + 1)), none] [] w22)) ∧ (v19 = v23 → (a3 ≤ x5 → ck_i (a4 + 1) ∧ (ck_At (ch_C g A R) (d + 1) mX12_widthOf K 5 [some (.inr (.inr 76)), some (.inl a1), some (.inl a2), some (.inl a3), some (.inl (a4 + 1)), none] [] w22)) ∧ (¬ a3 ≤ x5 → ck_i (a4 + 1) ∧ (ck_At (ch_C g A R) (d + 1) mX12_widthOf K 5 [some (.inr (.inr 76)), some (.inl a1), some (.inl a2), some (.inl x5), some (.inl (a4 + 1)), none] [] w22)))))))))))) ∧ (¬ a1 ≤ (w 77 (10 + a4)) → ck_i (a4 + 1) ∧ (ck_At (ch_C g A R) (d + 1) mX12_widthOf K 5 [some (.inr (.inr 76)), some (.inl a1), some (.inl a2), some (.inl a3), some (.inl (a4 + 1)), none] [] w))))) : ck_At (ch_C g A R) (d + 1) mX12_widthOf K 5 [some (.inr (.inr 76)), some (.inl a1), some (.inl a2), some (.inl a3), some (.inl a4), none] [] w :=
  ck_in (fun hl => (ck_iload 7 rfl dX12_widthOf_5 rfl (ck_bipush 9 rfl dX12_widthOf_7 rfl (ck_icmp_ge 12 rfl 100 dX12_widthOf_9 rfl hl.2.2.2.2.1 (show ck_i 6 by decide) (fun c40 => (ck_iload_n 101 rfl 3 dX12_widthOf_100 rfl rfl (ck_iret dX12_widthOf_101 rfl hl.2.2.2.1 (h.1 c40)))) (fun c41 => (ck_aload_n 13 rfl 0 dX12_widthOf_12 rfl rfl (ck_getr 16 rfl dX12_widthOf_13 fl_X12_7 sh_76 rfl (ck_bipush 18 rfl dX12_widthOf_16 rfl (ck_iload 20 rfl dX12_widthOf_18 rfl (ck_iadd 21 rfl dX12_widthOf_20 (have h43 := (h.2 c41); have o1 := h43.1; have h42 := h43.2; (ck_iald 22 rfl dX12_widthOf_21 sh_77 (shn_77 hC) o1 _ rfl (fun (q2 : ck_i (w 77 (10 + a4))) => (ck_iload_n 23 rfl 1 dX12_widthOf_22 rfl rfl (ck_icmp_ge 26 rfl 29 dX12_widthOf_23 rfl q2 hl.2.1 (fun c38 => (ck_aload_n 30 rfl 0 dX12_widthOf_29 rfl rfl (ck_getr 33 rfl dX12_widthOf_30 fl_X12_36 sh_76 rfl (ck_bipush 35 rfl dX12_widthOf_33 rfl (ck_iload 37 rfl dX12_widthOf_35 rfl (ck_imul 38 rfl dX12_widthOf_37 (ck_iload_n 39 rfl 2 dX12_widthOf_38 rfl rfl (ck_iadd 40 rfl dX12_widthOf_39 (have h45 := (h42.1 c38); have o3 := h45.1; have h44 := h45.2; (ck_iald 41 rfl dX12_widthOf_40 sh_85 (shn_85 hC) o3 _ rfl (fun (q4 : ck_i (w 85 ((24 * a4) + a2))) => (ck_iconst 42 rfl dX12_widthOf_41 rfl (ck_iadd 43 rfl dX12_widthOf_42 (ck_nmi (fun x5 e6 => (have h47 := (h44 x5 e6); have o7 := h47.1; have h46 := h47.2; (ck_istore 45 rfl [some (.inr (.inr 76)), some (.inl a1), some (.inl a2), some (.inl a3), some (.inl a4), some (.inl x5)] dX12_widthOf_43 (Nat.le_of_ble_eq_true rfl) rfl rfl o7 (ck_iload_n 46 rfl 3 dX12_widthOf_45 rfl rfl (ck_if_lt 49 rfl 91 dX12_widthOf_46 rfl hl.2.2.2.1 (fun c35 => (ck_iload 93 rfl dX12_widthOf_91 rfl (ck_istore_n 94 rfl 3 [some (.inr (.inr 76)), some (.inl a1), some (.inl a2), some (.inl x5), some (.inl a4), some (.inl x5)] dX12_widthOf_93 rfl (Nat.le_of_ble_eq_true rfl) rfl rfl o7 (have h49 := (h46.1 c35); have o8 := h49.1; have h48 := h49.2; (ck_iinc 97 rfl [some (.inr (.inr 76)), some (.inl a1), some (.inl a2), some (.inl x5), some (.inl (a4 + 1)), some (.inl x5)] dX12_widthOf_94 rfl (Nat.le_of_ble_eq_true rfl) rfl rfl o8 (ck_goto 5 dX12_widthOf_97 rfl (ck_drop [some (.inr (.inr 76)), some (.inl a1), some (.inl a2), some (.inl x5), some (.inl (a4 + 1)), none] (And.intro rfl (And.intro rfl (And.intro rfl (And.intro rfl (And.intro rfl True.intro))))) h48))))))) (fun c36 => (ck_aload_n 50 rfl 0 dX12_widthOf_49 rfl rfl (ck_iload_n 51 rfl 1 dX12_widthOf_50 rfl rfl (ck_iload_n 52 rfl 2 dX12_widthOf_51 rfl rfl (ck_iload 54 rfl dX12_widthOf_52 rfl (ck_callV 57 rfl [.inl a1, .inl a2, .inl x5] [] dX12_widthOf_54 cv_X12_168 sh_76 rfl rfl (Nat.le_of_ble_eq_true rfl) (And.intro hl.2.1 (And.intro hl.2.2.1 (And.intro o7 True.intro))) (ck_mI (h46.2 c36) (fun v10 w9 q11 h12 => (ck_aload_n 58 rfl 0 dX12_widthOf_57 rfl rfl (ck_iload_n 59 rfl 1 dX12_widthOf_58 rfl rfl (ck_iload_n 60 rfl 2 dX12_widthOf_59 rfl rfl (ck_iload_n 61 rfl 3 dX12_widthOf_60 rfl rfl (ck_callV 64 rfl [.inl a1, .inl a2, .inl a3] [.inl v10] dX12_widthOf_61 cv_X12_168 sh_76 rfl rfl (Nat.le_of_ble_eq_true rfl) (And.intro hl.2.1 (And.intro hl.2.2.1 (And.intro hl.2.2.2.1 True.intro))) (ck_mI h12 (fun v14 w13 q15 h16 => (ck_icmp_lt 67 rfl 91 dX12_widthOf_64 rfl q11 q15 (fun c33 => (ck_iload 93 rfl dX12_widthOf_91 rfl (ck_istore_n 94 rfl 3 [some (.inr (.inr 76)), some (.inl a1), some (.inl a2), some (.inl x5), some (.inl a4), some (.inl x5)] dX12_widthOf_93 rfl (Nat.le_of_ble_eq_true rfl) rfl rfl o7 (have h51 := (h16.1 c33); have o17 := h51.1; have h50 := h51.2; (ck_iinc 97 rfl [some (.inr (.inr 76)), some (.inl a1), some (.inl a2), some (.inl x5), some (.inl (a4 + 1)), some (.inl x5)] dX12_widthOf_94 rfl (Nat.le_of_ble_eq_true rfl) rfl rfl o17 (ck_goto 5 dX12_widthOf_97 rfl (ck_drop [some (.inr (.inr 76)), some (.inl a1), some (.inl a2), some (.inl x5), some (.inl (a4 + 1)), none] (And.intro rfl (And.intro rfl (And.intro rfl (And.intro rfl (And.intro rfl True.intro))))) h50))))))) (fun c34 => (ck_aload_n 68 rfl 0 dX12_widthOf_67 rfl rfl (ck_iload_n 69 rfl 1 dX12_widthOf_68 rfl rfl (ck_iload_n 70 rfl 2 dX12_widthOf_69 rfl rfl (ck_iload 72 rfl dX12_widthOf_70 rfl (ck_callV 75 rfl [.inl a1, .inl a2, .inl x5] [] dX12_widthOf_72 cv_X12_168 sh_76 rfl rfl (Nat.le_of_ble_eq_true rfl) (And.intro hl.2.1 (And.intro hl.2.2.1 (And.intro o7 True.intro))) (ck_mI (h16.2 c34) (fun v19 w18 q20 h21 => (ck_aload_n 76 rfl 0 dX12_widthOf_75 rfl rfl (ck_iload_n 77 rfl 1 dX12_widthOf_76 rfl rfl (ck_iload_n 78 rfl 2 dX12_widthOf_77 rfl rfl (ck_iload_n 79 rfl 3 dX12_widthOf_78 rfl rfl (ck_callV 82 rfl [.inl a1, .inl a2, .inl a3] [.inl v19] dX12_widthOf_79 cv_X12_168 sh_76 rfl rfl (Nat.le_of_ble_eq_true rfl) (And.intro hl.2.1 (And.intro hl.2.2.1 (And.intro hl.2.2.2.1 True.intro))) (ck_mI h21 (fun v23 w22 q24 h25 => (ck_icmp_ne 85 rfl 94 dX12_widthOf_82 rfl q20 q24 (fun c31 => (have h53 := (h25.1 c31); have o26 := h53.1; have h52 := h53.2; (ck_iinc 97 rfl [some (.inr (.inr 76)), some (.inl a1), some (.inl a2), some (.inl a3), some (.inl (a4 + 1)), some (.inl x5)] dX12_widthOf_94 rfl (Nat.le_of_ble_eq_true rfl) rfl rfl o26 (ck_goto 5 dX12_widthOf_97 rfl (ck_drop [some (.inr (.inr 76)), some (.inl a1), some (.inl a2), some (.inl a3), some (.inl (a4 + 1)), none] (And.intro rfl (And.intro rfl (And.intro rfl (And.intro rfl (And.intro rfl True.intro))))) h52))))) (fun c32 => (ck_iload 87 rfl dX12_widthOf_85 rfl (ck_iload_n 88 rfl 3 dX12_widthOf_87 rfl rfl (have h54 := (h25.2 c32); (ck_icmp_ge 91 rfl 94 dX12_widthOf_88 rfl o7 hl.2.2.2.1 (fun c29 => (have h56 := (h54.1 c29); have o27 := h56.1; have h55 := h56.2; (ck_iinc 97 rfl [some (.inr (.inr 76)), some (.inl a1), some (.inl a2), some (.inl a3), some (.inl (a4 + 1)), some (.inl x5)] dX12_widthOf_94 rfl (Nat.le_of_ble_eq_true rfl) rfl rfl o27 (ck_goto 5 dX12_widthOf_97 rfl (ck_drop [some (.inr (.inr 76)), some (.inl a1), some (.inl a2), some (.inl a3), some (.inl (a4 + 1)), none] (And.intro rfl (And.intro rfl (And.intro rfl (And.intro rfl (And.intro rfl True.intro))))) h55))))) (fun c30 => (ck_iload 93 rfl dX12_widthOf_91 rfl (ck_istore_n 94 rfl 3 [some (.inr (.inr 76)), some (.inl a1), some (.inl a2), some (.inl x5), some (.inl a4), some (.inl x5)] dX12_widthOf_93 rfl (Nat.le_of_ble_eq_true rfl) rfl rfl o7 (have h58 := (h54.2 c30); have o28 := h58.1; have h57 := h58.2; (ck_iinc 97 rfl [some (.inr (.inr 76)), some (.inl a1), some (.inl a2), some (.inl x5), some (.inl (a4 + 1)), some (.inl x5)] dX12_widthOf_94 rfl (Nat.le_of_ble_eq_true rfl) rfl rfl o28 (ck_goto 5 dX12_widthOf_97 rfl (ck_drop [some (.inr (.inr 76)), some (.inl a1), some (.inl a2), some (.inl x5), some (.inl (a4 + 1)), none] (And.intro rfl (And.intro rfl (And.intro rfl (And.intro rfl (And.intro rfl True.intro))))) h57))))))))))))))))))))))))))))))))))))))))))))))))))))))))))))))) (fun c39 => (ck_goto 94 dX12_widthOf_26 rfl (have h60 := (h42.2 c39); have o37 := h60.1; have h59 := h60.2; (ck_iinc 97 rfl [some (.inr (.inr 76)), some (.inl a1), some (.inl a2), some (.inl a3), some (.inl (a4 + 1)), none] dX12_widthOf_94 rfl (Nat.le_of_ble_eq_true rfl) rfl rfl o37 (ck_goto 5 dX12_widthOf_97 rfl h59))))))))))))))))))))
theorem S_X12_widthOf {g : ch_G} {A R : Nat} (hC : ck_Cx g A R) {d : Nat} {K : Option ck_V → ck_W → Prop} {w : ck_W} {a1 a2 : Int} (hI : rm_I A R w) (h2 : 0 ≤ a2 ∧ a2 ≤ 23) (hk : rm_wk R a1 a2 w) (h : ∀ v, -1 ≤ v ∧ v ≤ 100 → K (some (.inl v)) w) : ck_Ex (ch_C g A R) (d + 2) mX12_widthOf [.inr (.inr 76), .inl a1, .inl a2] w K := by
  have c := rm_cp hC hI
  have l : ∀ (m : Nat) (a3 a4 : Int), 6 - a4 = m → 0 ≤ a4 → (-1 ≤ a3 ∧ a3 ≤ 100) → ck_At (ch_C g A R) (d + 2) mX12_widthOf K 5 [some (.inr (.inr 76)), some (.inl a1), some (.inl a2), some (.inl a3), some (.inl a4), none] [] w := by
    intro m
    induction m with
    | zero =>
      intro a3 a4 q1 q2 q3
      exact r_X12_widthOf_5 hC ⟨fun _ => h a3 q3, fun z => absurd (by omega) z⟩
    | succ m ih =>
      intro a3 a4 q1 q2 q3
      refine r_X12_widthOf_5 hC ⟨fun z => absurd z (by omega), fun _ => ⟨by omega, fun z => ?_, fun z => ⟨by constructor <;> omega, ih _ _ (by omega) (by omega) q3⟩⟩⟩
      have b := hk a4 q2 (by omega) z
      refine ⟨by omega, fun x ex => ⟨by constructor <;> omega, fun _ => ⟨by constructor <;> omega, ih _ _ (by omega) (by omega) (by omega)⟩, fun _ => ?_⟩⟩
      refine S_X12_stretch hC hI h2 (by omega) hk (fun v1 b1 => ⟨_, rfl, fun _ => S_X12_stretch hC hI h2 (by omega) hk (fun v2 b2 => ⟨_, rfl, fun _ => ⟨fun _ => ⟨by constructor <;> omega, ih _ _ (by omega) (by omega) (by omega)⟩, fun _ => ?_⟩⟩)⟩)
      refine S_X12_stretch hC hI h2 (by omega) hk (fun v3 b3 => ⟨_, rfl, fun _ => S_X12_stretch hC hI h2 (by omega) hk (fun v4 b4 => ⟨_, rfl, fun _ => ⟨fun _ => ⟨by constructor <;> omega, ih _ _ (by omega) (by omega) q3⟩, fun _ => ⟨fun _ => ⟨by constructor <;> omega, ih _ _ (by omega) (by omega) q3⟩, fun _ => ⟨by constructor <;> omega, ih _ _ (by omega) (by omega) (by omega)⟩⟩⟩⟩)⟩)
  exact e_X12_widthOf hC (l 6 (-1) 0 (by omega) (by omega) (by omega))
theorem dX12_flat_0 : decode cX12_flat 0 = .ok (.iload_n 1, 1) := dk_27 (by decide +kernel)
theorem dX12_flat_1 : decode cX12_flat 1 = .ok (.iconst 1, 1) := dk_4 (by decide +kernel)
theorem dX12_flat_2 : decode cX12_flat 2 = .ok (.iconst 4, 1) := dk_7 (by decide +kernel)
theorem dX12_flat_3 : decode cX12_flat 3 = .ok (.invokestatic 93, 3) := dk_184 0 93 (by decide +kernel)
theorem dX12_flat_6 : decode cX12_flat 6 = .ok (.ifCond .eq 28, 3) := dk_153 0 28 (by decide +kernel)
theorem dX12_flat_9 : decode cX12_flat 9 = .ok (.iload_n 2, 1) := dk_28 (by decide +kernel)
theorem dX12_flat_10 : decode cX12_flat 10 = .ok (.iconst 0, 1) := dk_3 (by decide +kernel)
theorem dX12_flat_11 : decode cX12_flat 11 = .ok (.iload_n 1, 1) := dk_27 (by decide +kernel)
theorem dX12_flat_12 : decode cX12_flat 12 = .ok (.aload_n 0, 1) := dk_42 (by decide +kernel)
theorem dX12_flat_13 : decode cX12_flat 13 = .ok (.getfield 80, 3) := dk_180 0 80 (by decide +kernel)
theorem dX12_flat_16 : decode cX12_flat 16 = .ok (.imul, 1) := dk_104 (by decide +kernel)
theorem dX12_flat_17 : decode cX12_flat 17 = .ok (.iconst 2, 1) := dk_5 (by decide +kernel)
theorem dX12_flat_18 : decode cX12_flat 18 = .ok (.isub, 1) := dk_100 (by decide +kernel)
theorem dX12_flat_19 : decode cX12_flat 19 = .ok (.invokestatic 93, 3) := dk_184 0 93 (by decide +kernel)
theorem dX12_flat_22 : decode cX12_flat 22 = .ok (.ifCond .eq 12, 3) := dk_153 0 12 (by decide +kernel)
theorem dX12_flat_25 : decode cX12_flat 25 = .ok (.iload_n 3, 1) := dk_29 (by decide +kernel)
theorem dX12_flat_26 : decode cX12_flat 26 = .ok (.iconst 0, 1) := dk_3 (by decide +kernel)
theorem dX12_flat_27 : decode cX12_flat 27 = .ok (.iconst 2, 1) := dk_5 (by decide +kernel)
theorem dX12_flat_28 : decode cX12_flat 28 = .ok (.invokestatic 93, 3) := dk_184 0 93 (by decide +kernel)
theorem dX12_flat_31 : decode cX12_flat 31 = .ok (.ifCond .ne 5, 3) := dk_154 0 5 (by decide +kernel)
theorem dX12_flat_34 : decode cX12_flat 34 = .ok (.iconst (-1), 1) := dk_2 (by decide +kernel)
theorem dX12_flat_35 : decode cX12_flat 35 = .ok (.ireturn, 1) := dk_172 (by decide +kernel)
theorem dX12_flat_36 : decode cX12_flat 36 = .ok (.aload_n 0, 1) := dk_42 (by decide +kernel)
theorem dX12_flat_37 : decode cX12_flat 37 = .ok (.invokevirtual 171, 3) := dk_182 0 171 (by decide +kernel)
theorem dX12_flat_40 : decode cX12_flat 40 = .ok (.iconst 0, 1) := dk_3 (by decide +kernel)
theorem dX12_flat_41 : decode cX12_flat 41 = .ok (.istore 4, 2) := dk_54 (by decide +kernel)
theorem dX12_flat_43 : decode cX12_flat 43 = .ok (.iconst 0, 1) := dk_3 (by decide +kernel)
theorem dX12_flat_44 : decode cX12_flat 44 = .ok (.istore 5, 2) := dk_54 (by decide +kernel)
theorem dX12_flat_46 : decode cX12_flat 46 = .ok (.iload 5, 2) := dk_21 (by decide +kernel)
theorem dX12_flat_48 : decode cX12_flat 48 = .ok (.bipush 6, 2) := dk_16 6 (by decide +kernel)
theorem dX12_flat_50 : decode cX12_flat 50 = .ok (.if_icmp .ge 41, 3) := dk_162 0 41 (by decide +kernel)
theorem dX12_flat_53 : decode cX12_flat 53 = .ok (.aload_n 0, 1) := dk_42 (by decide +kernel)
theorem dX12_flat_54 : decode cX12_flat 54 = .ok (.getfield 7, 3) := dk_180 0 7 (by decide +kernel)
theorem dX12_flat_57 : decode cX12_flat 57 = .ok (.bipush 10, 2) := dk_16 10 (by decide +kernel)
theorem dX12_flat_59 : decode cX12_flat 59 = .ok (.iload 5, 2) := dk_21 (by decide +kernel)
theorem dX12_flat_61 : decode cX12_flat 61 = .ok (.iadd, 1) := dk_96 (by decide +kernel)
theorem dX12_flat_62 : decode cX12_flat 62 = .ok (.iaload, 1) := dk_46 (by decide +kernel)
theorem dX12_flat_63 : decode cX12_flat 63 = .ok (.iload_n 1, 1) := dk_27 (by decide +kernel)
theorem dX12_flat_64 : decode cX12_flat 64 = .ok (.if_icmp .ge 6, 3) := dk_162 0 6 (by decide +kernel)
theorem dX12_flat_67 : decode cX12_flat 67 = .ok (.goto 18, 3) := dk_167 0 18 (by decide +kernel)
theorem dX12_flat_70 : decode cX12_flat 70 = .ok (.iconst 1, 1) := dk_4 (by decide +kernel)
theorem dX12_flat_71 : decode cX12_flat 71 = .ok (.istore 4, 2) := dk_54 (by decide +kernel)
theorem dX12_flat_73 : decode cX12_flat 73 = .ok (.aload_n 0, 1) := dk_42 (by decide +kernel)
theorem dX12_flat_74 : decode cX12_flat 74 = .ok (.getfield 30, 3) := dk_180 0 30 (by decide +kernel)
theorem dX12_flat_77 : decode cX12_flat 77 = .ok (.iload 5, 2) := dk_21 (by decide +kernel)
theorem dX12_flat_79 : decode cX12_flat 79 = .ok (.iaload, 1) := dk_46 (by decide +kernel)
theorem dX12_flat_80 : decode cX12_flat 80 = .ok (.ifCond .ge 5, 3) := dk_156 0 5 (by decide +kernel)
theorem dX12_flat_83 : decode cX12_flat 83 = .ok (.iconst (-1), 1) := dk_2 (by decide +kernel)
theorem dX12_flat_84 : decode cX12_flat 84 = .ok (.ireturn, 1) := dk_172 (by decide +kernel)
theorem dX12_flat_85 : decode cX12_flat 85 = .ok (.iinc 5 1, 3) := dk_132 1 (by decide +kernel)
theorem dX12_flat_88 : decode cX12_flat 88 = .ok (.goto (-42), 3) := dk_167 255 214 (by decide +kernel)
theorem dX12_flat_91 : decode cX12_flat 91 = .ok (.iload 4, 2) := dk_21 (by decide +kernel)
theorem dX12_flat_93 : decode cX12_flat 93 = .ok (.ifCond .ne 5, 3) := dk_154 0 5 (by decide +kernel)
theorem dX12_flat_96 : decode cX12_flat 96 = .ok (.iconst (-1), 1) := dk_2 (by decide +kernel)
theorem dX12_flat_97 : decode cX12_flat 97 = .ok (.ireturn, 1) := dk_172 (by decide +kernel)
theorem dX12_flat_98 : decode cX12_flat 98 = .ok (.aload_n 0, 1) := dk_42 (by decide +kernel)
theorem dX12_flat_99 : decode cX12_flat 99 = .ok (.iload_n 1, 1) := dk_27 (by decide +kernel)
theorem dX12_flat_100 : decode cX12_flat 100 = .ok (.iload_n 2, 1) := dk_28 (by decide +kernel)
theorem dX12_flat_101 : decode cX12_flat 101 = .ok (.invokevirtual 174, 3) := dk_182 0 174 (by decide +kernel)
theorem dX12_flat_104 : decode cX12_flat 104 = .ok (.istore 5, 2) := dk_54 (by decide +kernel)
theorem dX12_flat_106 : decode cX12_flat 106 = .ok (.iload_n 3, 1) := dk_29 (by decide +kernel)
theorem dX12_flat_107 : decode cX12_flat 107 = .ok (.iconst 2, 1) := dk_5 (by decide +kernel)
theorem dX12_flat_108 : decode cX12_flat 108 = .ok (.if_icmp .ge 21, 3) := dk_162 0 21 (by decide +kernel)
theorem dX12_flat_111 : decode cX12_flat 111 = .ok (.iload_n 3, 1) := dk_29 (by decide +kernel)
theorem dX12_flat_112 : decode cX12_flat 112 = .ok (.ifCond .ne 8, 3) := dk_154 0 8 (by decide +kernel)
theorem dX12_flat_115 : decode cX12_flat 115 = .ok (.iload 5, 2) := dk_21 (by decide +kernel)
theorem dX12_flat_117 : decode cX12_flat 117 = .ok (.goto 11, 3) := dk_167 0 11 (by decide +kernel)
theorem dX12_flat_120 : decode cX12_flat 120 = .ok (.aload_n 0, 1) := dk_42 (by decide +kernel)
theorem dX12_flat_121 : decode cX12_flat 121 = .ok (.iload_n 1, 1) := dk_27 (by decide +kernel)
theorem dX12_flat_122 : decode cX12_flat 122 = .ok (.iload_n 2, 1) := dk_28 (by decide +kernel)
theorem dX12_flat_123 : decode cX12_flat 123 = .ok (.iload 5, 2) := dk_21 (by decide +kernel)
theorem dX12_flat_125 : decode cX12_flat 125 = .ok (.invokevirtual 168, 3) := dk_182 0 168 (by decide +kernel)
theorem dX12_flat_128 : decode cX12_flat 128 = .ok (.ireturn, 1) := dk_172 (by decide +kernel)
theorem dX12_flat_129 : decode cX12_flat 129 = .ok (.iconst 0, 1) := dk_3 (by decide +kernel)
theorem dX12_flat_130 : decode cX12_flat 130 = .ok (.istore 6, 2) := dk_54 (by decide +kernel)
theorem dX12_flat_132 : decode cX12_flat 132 = .ok (.iconst 0, 1) := dk_3 (by decide +kernel)
theorem dX12_flat_133 : decode cX12_flat 133 = .ok (.istore 7, 2) := dk_54 (by decide +kernel)
theorem dX12_flat_135 : decode cX12_flat 135 = .ok (.iload 7, 2) := dk_21 (by decide +kernel)
theorem dX12_flat_137 : decode cX12_flat 137 = .ok (.iload_n 2, 1) := dk_28 (by decide +kernel)
theorem dX12_flat_138 : decode cX12_flat 138 = .ok (.if_icmp .gt 28, 3) := dk_163 0 28 (by decide +kernel)
theorem dX12_flat_141 : decode cX12_flat 141 = .ok (.iload 6, 2) := dk_21 (by decide +kernel)
theorem dX12_flat_143 : decode cX12_flat 143 = .ok (.aload_n 0, 1) := dk_42 (by decide +kernel)
theorem dX12_flat_144 : decode cX12_flat 144 = .ok (.iload_n 1, 1) := dk_27 (by decide +kernel)
theorem dX12_flat_145 : decode cX12_flat 145 = .ok (.iload 7, 2) := dk_21 (by decide +kernel)
theorem dX12_flat_147 : decode cX12_flat 147 = .ok (.aload_n 0, 1) := dk_42 (by decide +kernel)
theorem dX12_flat_148 : decode cX12_flat 148 = .ok (.iload_n 1, 1) := dk_27 (by decide +kernel)
theorem dX12_flat_149 : decode cX12_flat 149 = .ok (.iload 7, 2) := dk_21 (by decide +kernel)
theorem dX12_flat_151 : decode cX12_flat 151 = .ok (.invokevirtual 174, 3) := dk_182 0 174 (by decide +kernel)
theorem dX12_flat_154 : decode cX12_flat 154 = .ok (.invokevirtual 168, 3) := dk_182 0 168 (by decide +kernel)
theorem dX12_flat_157 : decode cX12_flat 157 = .ok (.iadd, 1) := dk_96 (by decide +kernel)
theorem dX12_flat_158 : decode cX12_flat 158 = .ok (.istore 6, 2) := dk_54 (by decide +kernel)
theorem dX12_flat_160 : decode cX12_flat 160 = .ok (.iinc 7 1, 3) := dk_132 1 (by decide +kernel)
theorem dX12_flat_163 : decode cX12_flat 163 = .ok (.goto (-28), 3) := dk_167 255 228 (by decide +kernel)
theorem dX12_flat_166 : decode cX12_flat 166 = .ok (.iload 6, 2) := dk_21 (by decide +kernel)
theorem dX12_flat_168 : decode cX12_flat 168 = .ok (.ireturn, 1) := dk_172 (by decide +kernel)
set_option maxRecDepth 8000 in
theorem e_X12_flat {g : ch_G} {A R : Nat} (hC : ck_Cx g A R) {d : Nat} {K : Option ck_V → ck_W → Prop} {w : ck_W} {a1 a2 a3 : Int} (h : (1 ≤ a1 ∧ a1 ≤ 4 → ck_i ((a1 * (w 76 0)) - 2) ∧ ((0 ≤ a2 ∧ a2 ≤ ((a1 * (w 76 0)) - 2) → (0 ≤ a3 ∧ a3 ≤ 2 → ck_CN (ch_C g A R) d mX12_windAll [.inr (.inr 76)] w (fun w3 => ck_At (ch_C g A R) (d + 1) mX12_flat K 46 [some (.inr (.inr 76)), some (.inl a1), some (.inl a2), some (.inl a3), some (.inl 0), some (.inl 0), none, none] [] w3)) ∧ (¬ (0 ≤ a3 ∧ a3 ≤ 2) → K (some (.inl (-1))) w)) ∧ (¬ (0 ≤ a2 ∧ a2 ≤ ((a1 * (w 76 0)) - 2)) → K (some (.inl (-1))) w))) ∧ (¬ (1 ≤ a1 ∧ a1 ≤ 4) → K (some (.inl (-1))) w)) : ck_Ex (ch_C g A R) (d + 1) mX12_flat [.inr (.inr 76), .inl a1, .inl a2, .inl a3] w K :=
  ck_entry hC.1 [some (.inr (.inr 76)), some (.inl a1), some (.inl a2), some (.inl a3), none, none, none, none] (by decide) (Nat.le_of_ble_eq_true rfl) rfl (fun q => q) (ck_in (fun hl => (ck_iload_n 1 rfl 1 dX12_flat_0 rfl rfl (ck_iconst 2 rfl dX12_flat_1 rfl (ck_iconst 3 rfl dX12_flat_2 rfl (have h13 := h; ck_callS 6 rfl [.inl a1, .inl 1, .inl 4] [] dX12_flat_3 cs_X12_93 rfl rfl (Nat.le_of_ble_eq_true rfl) (And.intro hl.2.1 (And.intro (show ck_i 1 by decide) (And.intro (show ck_i 4 by decide) True.intro))) (p_X12_isIn hC (fun c11 _ => (ck_if_eq 9 rfl 34 dX12_flat_6 rfl (by decide) (fun q => absurd q (by decide)) (fun _ => (ck_iload_n 10 rfl 2 dX12_flat_9 rfl rfl (ck_iconst 11 rfl dX12_flat_10 rfl (ck_iload_n 12 rfl 1 dX12_flat_11 rfl rfl (ck_aload_n 13 rfl 0 dX12_flat_12 rfl rfl (ck_geti 16 rfl 0 dX12_flat_13 fl_X12_80 sh_76 rfl rfl _ rfl (fun (q1 : ck_i (w 76 0)) => (ck_imul 17 rfl dX12_flat_16 (ck_iconst 18 rfl dX12_flat_17 rfl (ck_isub 19 rfl dX12_flat_18 (have h15 := (h13.1 c11); have o2 := h15.1; have h14 := h15.2; (have h10 := h14; ck_callS 22 rfl [.inl a2, .inl 0, .inl ((a1 * (w 76 0)) - 2)] [] dX12_flat_19 cs_X12_93 rfl rfl (Nat.le_of_ble_eq_true rfl) (And.intro hl.2.2.1 (And.intro (show ck_i 0 by decide) (And.intro o2 True.intro))) (p_X12_isIn hC (fun c8 _ => (ck_if_eq 25 rfl 34 dX12_flat_22 rfl (by decide) (fun q => absurd q (by decide)) (fun _ => (ck_iload_n 26 rfl 3 dX12_flat_25 rfl rfl (ck_iconst 27 rfl dX12_flat_26 rfl (ck_iconst 28 rfl dX12_flat_27 rfl (have h7 := (h10.1 c8); ck_callS 31 rfl [.inl a3, .inl 0, .inl 2] [] dX12_flat_28 cs_X12_93 rfl rfl (Nat.le_of_ble_eq_true rfl) (And.intro hl.2.2.2.1 (And.intro (show ck_i 0 by decide) (And.intro (show ck_i 2 by decide) True.intro))) (p_X12_isIn hC (fun c5 _ => (ck_if_ne 34 rfl 36 dX12_flat_31 rfl (by decide) (fun _ => (ck_aload_n 37 rfl 0 dX12_flat_36 rfl rfl (ck_callV 40 rfl [] [] dX12_flat_37 cv_X12_171 sh_76 rfl rfl (Nat.le_of_ble_eq_true rfl) True.intro (ck_mN (h7.1 c5) (fun w3 h4 => (ck_iconst 41 rfl dX12_flat_40 rfl (ck_istore 43 rfl [some (.inr (.inr 76)), some (.inl a1), some (.inl a2), some (.inl a3), some (.inl 0), none, none, none] dX12_flat_41 (Nat.le_of_ble_eq_true rfl) rfl rfl (show ck_i 0 by decide) (ck_iconst 44 rfl dX12_flat_43 rfl (ck_istore 46 rfl [some (.inr (.inr 76)), some (.inl a1), some (.inl a2), some (.inl a3), some (.inl 0), some (.inl 0), none, none] dX12_flat_44 (Nat.le_of_ble_eq_true rfl) rfl rfl (show ck_i 0 by decide) h4))))))))) (fun q => absurd q (by decide)))) (fun c6 _ => (ck_if_ne 34 rfl 36 dX12_flat_31 rfl (by decide) (fun q => absurd q (by decide)) (fun _ => (ck_iconst 35 rfl dX12_flat_34 rfl (ck_iret dX12_flat_35 rfl (show ck_i (-1) by decide) (h7.2 c6)))))))))))))) (fun c9 _ => (ck_if_eq 25 rfl 34 dX12_flat_22 rfl (by decide) (fun _ => (ck_iconst 35 rfl dX12_flat_34 rfl (ck_iret dX12_flat_35 rfl (show ck_i (-1) by decide) (h10.2 c9)))) (fun q => absurd q (by decide))))))))))))))))))) (fun c12 _ => (ck_if_eq 9 rfl 34 dX12_flat_6 rfl (by decide) (fun _ => (ck_iconst 35 rfl dX12_flat_34 rfl (ck_iret dX12_flat_35 rfl (show ck_i (-1) by decide) (h13.2 c12)))) (fun q => absurd q (by decide)))))))))))
set_option maxRecDepth 8000 in
theorem r_X12_flat_46 {g : ch_G} {A R : Nat} (hC : ck_Cx g A R) {d : Nat} {K : Option ck_V → ck_W → Prop} {w : ck_W} {a1 a2 a3 a4 a5 : Int} (h : (6 ≤ a5 → (¬ a4 = 0 → ck_CI (ch_C g A R) d mX12_widthOf [.inr (.inr 76), .inl a1, .inl a2] w (fun v2 w1 => (2 ≤ a3 → ck_At (ch_C g A R) (d + 1) mX12_flat K 135 [some (.inr (.inr 76)), some (.inl a1), some (.inl a2), none, none, none, some (.inl 0), some (.inl 0)] [] w1) ∧ (¬ 2 ≤ a3 → (¬ a3 = 0 → ck_CI (ch_C g A R) d mX12_stretch [.inr (.inr 76), .inl a1, .inl a2, .inl v2] w1 (fun v6 w5 => K (some (.inl v6)) w5)) ∧ (a3 = 0 → K (some (.inl v2)) w1)))) ∧ (a4 = 0 → K (some (.inl (-1))) w)) ∧ (¬ 6 ≤ a5 → (0 ≤ (10 + a5) ∧ (10 + a5) < 1430) ∧ ((a1 ≤ (w 77 (10 + a5)) → (0 ≤ a5 ∧ a5 < 6) ∧ ((0 ≤ (w 83 a5) → ck_i (a5 + 1) ∧ (ck_At (ch_C g A R) (d + 1) mX12_flat K 46 [some (.inr (.inr 76)), some (.inl a1), some (.inl a2), some (.inl a3), some (.inl 1), some (.inl (a5 + 1)), none, none] [] w)) ∧ (¬ 0 ≤ (w 83 a5) → K (some (.inl (-1))) w))) ∧ (¬ a1 ≤ (w 77 (10 + a5)) → ck_i (a5 + 1) ∧ (ck_At (ch_C g A R) (d + 1) mX12_flat K 46 [some (.inr (.inr 76)), some (.inl a1), some (.inl a2), some (.inl a3), some (.inl a4), some (.inl (a5 + 1)), none, none] [] w))))) : ck_At (ch_C g A R) (d + 1) mX12_flat K 46 [some (.inr (.inr 76)), some (.inl a1), some (.inl a2), some (.inl a3), some (.inl a4), some (.inl a5), none, none] [] w :=
  ck_in (fun hl => (ck_iload 48 rfl dX12_flat_46 rfl (ck_bipush 50 rfl dX12_flat_48 rfl (ck_icmp_ge 53 rfl 91 dX12_flat_50 rfl hl.2.2.2.2.2.1 (show ck_i 6 by decide) (fun c25 => (ck_iload 93 rfl dX12_flat_91 rfl (have h27 := (h.1 c25); (ck_if_ne 96 rfl 98 dX12_flat_93 rfl hl.2.2.2.2.1 (fun c13 => (ck_aload_n 99 rfl 0 dX12_flat_98 rfl rfl (ck_iload_n 100 rfl 1 dX12_flat_99 rfl rfl (ck_iload_n 101 rfl 2 dX12_flat_100 rfl rfl (ck_callV 104 rfl [.inl a1, .inl a2] [] dX12_flat_101 cv_X12_174 sh_76 rfl rfl (Nat.le_of_ble_eq_true rfl) (And.intro hl.2.1 (And.intro hl.2.2.1 True.intro)) (ck_mI (h27.1 c13) (fun v2 w1 q3 h4 => (ck_istore 106 rfl [some (.inr (.inr 76)), some (.inl a1), some (.inl a2), some (.inl a3), some (.inl a4), some (.inl v2), none, none] dX12_flat_104 (Nat.le_of_ble_eq_true rfl) rfl rfl q3 (ck_iload_n 107 rfl 3 dX12_flat_106 rfl rfl (ck_iconst 108 rfl dX12_flat_107 rfl (ck_icmp_ge 111 rfl 129 dX12_flat_108 rfl hl.2.2.2.1 (show ck_i 2 by decide) (fun c11 => (ck_iconst 130 rfl dX12_flat_129 rfl (ck_istore 132 rfl [some (.inr (.inr 76)), some (.inl a1), some (.inl a2), some (.inl a3), some (.inl a4), some (.inl v2), some (.inl 0), none] dX12_flat_130 (Nat.le_of_ble_eq_true rfl) rfl rfl (show ck_i 0 by decide) (ck_iconst 133 rfl dX12_flat_132 rfl (ck_istore 135 rfl [some (.inr (.inr 76)), some (.inl a1), some (.inl a2), some (.inl a3), some (.inl a4), some (.inl v2), some (.inl 0), some (.inl 0)] dX12_flat_133 (Nat.le_of_ble_eq_true rfl) rfl rfl (show ck_i 0 by decide) (ck_drop [some (.inr (.inr 76)), some (.inl a1), some (.inl a2), none, none, none, some (.inl 0), some (.inl 0)] (And.intro rfl (And.intro rfl (And.intro rfl (And.intro rfl (And.intro rfl True.intro))))) (h4.1 c11))))))) (fun c12 => (ck_iload_n 112 rfl 3 dX12_flat_111 rfl rfl (have h28 := (h4.2 c12); (ck_if_ne 115 rfl 120 dX12_flat_112 rfl hl.2.2.2.1 (fun c9 => (ck_aload_n 121 rfl 0 dX12_flat_120 rfl rfl (ck_iload_n 122 rfl 1 dX12_flat_121 rfl rfl (ck_iload_n 123 rfl 2 dX12_flat_122 rfl rfl (ck_iload 125 rfl dX12_flat_123 rfl (ck_callV 128 rfl [.inl a1, .inl a2, .inl v2] [] dX12_flat_125 cv_X12_168 sh_76 rfl rfl (Nat.le_of_ble_eq_true rfl) (And.intro hl.2.1 (And.intro hl.2.2.1 (And.intro q3 True.intro))) (ck_mI (h28.1 c9) (fun v6 w5 q7 h8 => (ck_iret dX12_flat_128 rfl q7 h8))))))))) (fun c10 => (ck_iload 117 rfl dX12_flat_115 rfl (ck_goto 128 dX12_flat_117 rfl (ck_iret dX12_flat_128 rfl q3 (h28.2 c10)))))))))))))))))))) (fun c14 => (ck_iconst 97 rfl dX12_flat_96 rfl (ck_iret dX12_flat_97 rfl (show ck_i (-1) by decide) (h27.2 c14)))))))) (fun c26 => (ck_aload_n 54 rfl 0 dX12_flat_53 rfl rfl (ck_getr 57 rfl dX12_flat_54 fl_X12_7 sh_76 rfl (ck_bipush 59 rfl dX12_flat_57 rfl (ck_iload 61 rfl dX12_flat_59 rfl (ck_iadd 62 rfl dX12_flat_61 (have h30 := (h.2 c26); have o15 := h30.1; have h29 := h30.2; (ck_iald 63 rfl dX12_flat_62 sh_77 (shn_77 hC) o15 _ rfl (fun (q16 : ck_i (w 77 (10 + a5))) => (ck_iload_n 64 rfl 1 dX12_flat_63 rfl rfl (ck_icmp_ge 67 rfl 70 dX12_flat_64 rfl q16 hl.2.1 (fun c23 => (ck_iconst 71 rfl dX12_flat_70 rfl (ck_istore 73 rfl [some (.inr (.inr 76)), some (.inl a1), some (.inl a2), some (.inl a3), some (.inl 1), some (.inl a5), none, none] dX12_flat_71 (Nat.le_of_ble_eq_true rfl) rfl rfl (show ck_i 1 by decide) (ck_aload_n 74 rfl 0 dX12_flat_73 rfl rfl (ck_getr 77 rfl dX12_flat_74 fl_X12_30 sh_76 rfl (ck_iload 79 rfl dX12_flat_77 rfl (have h32 := (h29.1 c23); have o17 := h32.1; have h31 := h32.2; (ck_iald 80 rfl dX12_flat_79 sh_83 (shn_83 hC) o17 _ rfl (fun (q18 : ck_i (w 83 a5)) => (ck_if_ge 83 rfl 85 dX12_flat_80 rfl q18 (fun c20 => (have h34 := (h31.1 c20); have o19 := h34.1; have h33 := h34.2; (ck_iinc 88 rfl [some (.inr (.inr 76)), some (.inl a1), some (.inl a2), some (.inl a3), some (.inl 1), some (.inl (a5 + 1)), none, none] dX12_flat_85 rfl (Nat.le_of_ble_eq_true rfl) rfl rfl o19 (ck_goto 46 dX12_flat_88 rfl h33)))) (fun c21 => (ck_iconst 84 rfl dX12_flat_83 rfl (ck_iret dX12_flat_84 rfl (show ck_i (-1) by decide) (h31.2 c21)))))))))))))) (fun c24 => (ck_goto 85 dX12_flat_67 rfl (have h36 := (h29.2 c24); have o22 := h36.1; have h35 := h36.2; (ck_iinc 88 rfl [some (.inr (.inr 76)), some (.inl a1), some (.inl a2), some (.inl a3), some (.inl a4), some (.inl (a5 + 1)), none, none] dX12_flat_85 rfl (Nat.le_of_ble_eq_true rfl) rfl rfl o22 (ck_goto 46 dX12_flat_88 rfl h35))))))))))))))))))))
set_option maxRecDepth 8000 in
theorem r_X12_flat_135 {g : ch_G} {A R : Nat} (hC : ck_Cx g A R) {d : Nat} {K : Option ck_V → ck_W → Prop} {w : ck_W} {a1 a2 a6 a7 : Int} (h : (a2 < a7 → K (some (.inl a6)) w) ∧ (¬ a2 < a7 → ck_CI (ch_C g A R) d mX12_widthOf [.inr (.inr 76), .inl a1, .inl a7] w (fun v2 w1 => ck_CI (ch_C g A R) d mX12_stretch [.inr (.inr 76), .inl a1, .inl a7, .inl v2] w1 (fun v6 w5 => ck_i (a6 + v6) ∧ (ck_i (a7 + 1) ∧ (ck_At (ch_C g A R) (d + 1) mX12_flat K 135 [some (.inr (.inr 76)), some (.inl a1), some (.inl a2), none, none, none, some (.inl (a6 + v6)), some (.inl (a7 + 1))] [] w5)))))) : ck_At (ch_C g A R) (d + 1) mX12_flat K 135 [some (.inr (.inr 76)), some (.inl a1), some (.inl a2), none, none, none, some (.inl a6), some (.inl a7)] [] w :=
  ck_in (fun hl => (ck_iload 137 rfl dX12_flat_135 rfl (ck_iload_n 138 rfl 2 dX12_flat_137 rfl rfl (ck_icmp_gt 141 rfl 166 dX12_flat_138 rfl hl.2.2.2.2.1 hl.2.2.1 (fun c11 => (ck_iload 168 rfl dX12_flat_166 rfl (ck_iret dX12_flat_168 rfl hl.2.2.2.1 (h.1 c11)))) (fun c12 => (ck_iload 143 rfl dX12_flat_141 rfl (ck_aload_n 144 rfl 0 dX12_flat_143 rfl rfl (ck_iload_n 145 rfl 1 dX12_flat_144 rfl rfl (ck_iload 147 rfl dX12_flat_145 rfl (ck_aload_n 148 rfl 0 dX12_flat_147 rfl rfl (ck_iload_n 149 rfl 1 dX12_flat_148 rfl rfl (ck_iload 151 rfl dX12_flat_149 rfl (ck_callV 154 rfl [.inl a1, .inl a7] [.inl a7, .inl a1, .inr (.inr 76), .inl a6] dX12_flat_151 cv_X12_174 sh_76 rfl rfl (Nat.le_of_ble_eq_true rfl) (And.intro hl.2.1 (And.intro hl.2.2.2.2.1 True.intro)) (ck_mI (h.2 c12) (fun v2 w1 q3 h4 => (ck_callV 157 rfl [.inl a1, .inl a7, .inl v2] [.inl a6] dX12_flat_154 cv_X12_168 sh_76 rfl rfl (Nat.le_of_ble_eq_true rfl) (And.intro hl.2.1 (And.intro hl.2.2.2.2.1 (And.intro q3 True.intro))) (ck_mI h4 (fun v6 w5 q7 h8 => (ck_iadd 158 rfl dX12_flat_157 (have h14 := h8; have o9 := h14.1; have h13 := h14.2; (ck_istore 160 rfl [some (.inr (.inr 76)), some (.inl a1), some (.inl a2), none, none, none, some (.inl (a6 + v6)), some (.inl a7)] dX12_flat_158 (Nat.le_of_ble_eq_true rfl) rfl rfl o9 (have h16 := h13; have o10 := h16.1; have h15 := h16.2; (ck_iinc 163 rfl [some (.inr (.inr 76)), some (.inl a1), some (.inl a2), none, none, none, some (.inl (a6 + v6)), some (.inl (a7 + 1))] dX12_flat_160 rfl (Nat.le_of_ble_eq_true rfl) rfl rfl o10 (ck_goto 135 dX12_flat_163 rfl h15))))))))))))))))))))))))
theorem M_flat {g : ch_G} {A R : Nat} (hC : ck_Cx g A R) {d : Nat} {K : Option ck_V → ck_W → Prop} {w : ck_W} {a1 a2 a3 : Int} (hI : rm_I A R w) (h : ∀ v w', rm_q w w' → K (some (.inl v)) w') : ck_Ex (ch_C g A R) (d + 7) mX12_flat [.inr (.inr 76), .inl a1, .inl a2, .inl a3] w K := by
  have c := rm_cp hC hI
  refine e_X12_flat hC ⟨fun q1 => ?_, fun _ => h _ _ rm_q_rf⟩
  have mb : 3 ≤ a1 * w 76 0 ∧ a1 * w 76 0 ≤ 24 := by
    rcases (by omega : a1 = 1 ∨ a1 = 2 ∨ a1 = 3 ∨ a1 = 4) with e | e | e | e <;> rw [e] <;> omega
  refine ⟨by constructor <;> omega, fun q2 => ⟨fun q3 => ?_, fun _ => h _ _ rm_q_rf⟩, fun _ => h _ _ rm_q_rf⟩
  refine S_X12_windAll hC hI (fun u i1 i2 => ⟨rfl, ?_⟩)
  have qq := rm_q_wf i1
  have hIu := rm_I_q hI qq
  have l2 : (∀ i, 0 ≤ i → i ≤ a2 → rm_wk R a1 i u) → ∀ (m : Nat) (a6 a7 : Int), a2 + 1 - a7 ≤ m → 0 ≤ a7 → (a7 ≤ 24) → (0 ≤ a6 ∧ a6 ≤ 1000 * a7) → ck_At (ch_C g A R) (d + 7) mX12_flat K 135 [some (.inr (.inr 76)), some (.inl a1), some (.inl a2), none, none, none, some (.inl a6), some (.inl a7)] [] u := by
    intro wk m
    induction m with
    | zero =>
      intro a6 a7 q1 q2 q2b q3
      exact r_X12_flat_135 hC ⟨fun _ => h _ _ qq, fun z => absurd (by omega) z⟩
    | succ m ih =>
      intro a6 a7 q1 q2 q2b q3
      refine r_X12_flat_135 hC ⟨fun _ => h _ _ qq, fun z => S_X12_widthOf hC hIu (by omega) (wk a7 q2 (by omega)) (fun v b => ⟨_, rfl, fun _ => S_X12_stretch hC hIu (by omega) (by omega) (wk a7 q2 (by omega)) (fun v2 b2 => ⟨_, rfl, fun _ => ⟨by constructor <;> omega, by constructor <;> omega, ih _ _ (by omega) (by omega) (by omega) (by omega)⟩⟩)⟩)⟩
  have l1 : ∀ (m : Nat) (a4 a5 : Int), 6 - a5 = m → 0 ≤ a5 → (∀ z, 0 ≤ z → z < a5 → a1 ≤ w 77 (10 + z) → 0 ≤ u 83 z) → ck_At (ch_C g A R) (d + 7) mX12_flat K 46 [some (.inr (.inr 76)), some (.inl a1), some (.inl a2), some (.inl a3), some (.inl a4), some (.inl a5), none, none] [] u := by
    intro m
    induction m with
    | zero =>
      intro a4 a5 q4 q5 q6
      have wk : ∀ i, 0 ≤ i → i ≤ a2 → rm_wk R a1 i u := fun i b1 b2 z z0 z1 z2 => by
        rw [qq.2.1] at z2
        have tb := rm_turn hI.2.2.2.1 z0 z1
        refine (i2 z z0 z1).2.2 (q6 z z0 (by omega) z2) i b1 ?_
        have m1 : a1 * (A : Int) ≤ w 77 (10 + z) * (A : Int) := Int.mul_le_mul_of_nonneg_right z2 (by omega)
        rw [c.1] at q2
        omega
      refine r_X12_flat_46 hC ⟨fun _ => ⟨fun _ => ?_, fun _ => h _ _ qq⟩, fun z => absurd (by omega) z⟩
      refine S_X12_widthOf hC hIu (by omega) (wk a2 q2.1 (by omega)) (fun v b => ⟨_, rfl, fun _ => ⟨fun _ => l2 wk (a2 + 1).toNat 0 0 (by omega) (by omega) (by omega) (by omega), fun _ => ⟨fun _ => S_X12_stretch hC hIu (by omega) (by omega) (wk a2 q2.1 (by omega)) (fun v2 b2 => ⟨_, rfl, fun _ => h _ _ qq⟩), fun _ => h _ _ qq⟩⟩⟩)
    | succ m ih =>
      intro a4 a5 q4 q5 q6
      refine r_X12_flat_46 hC ⟨fun z => absurd z (by omega), fun _ => ⟨by omega, fun z => ⟨by omega, fun z2 => ⟨by constructor <;> omega, ih _ _ (by omega) (by omega) (fun y y0 y1 y2 => ?_)⟩, fun _ => h _ _ qq⟩, fun z => ⟨by constructor <;> omega, ih _ _ (by omega) (by omega) (fun y y0 y1 y2 => ?_)⟩⟩⟩
      · by_cases e : y = a5
        · subst e; exact z2
        · exact q6 y y0 (by omega) y2
      · by_cases e : y = a5
        · subst e; rw [qq.2.1] at z; omega
        · exact q6 y y0 (by omega) y2
  exact l1 6 0 0 (by omega) (by omega) (fun z a b => by omega)
