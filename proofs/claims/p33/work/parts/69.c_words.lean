/-! ===== the class: words joined, printed ===== -/
theorem cb_fb {wt h m lk b : Int} (hw : 1 ≤ wt ∧ wt ≤ 99) (hh : 1 ≤ h ∧ h ≤ 3) (hm : 1 ≤ m ∧ m ≤ 3) (hl : 0 ≤ lk ∧ lk ≤ b) (hb : b ≤ 27) : 1 ≤ wt * (ck_pw h lk * ck_pw m (b - lk)) * ck_pw (max h m) (27 - b) ∧ wt * (ck_pw h lk * ck_pw m (b - lk)) * ck_pw (max h m) (27 - b) ≤ 754934151013713 := by
  have f1 := ck_fitb (h := h) (m := m) (a := lk) (n := b) (top := 3) (by omega) (by omega) hl
  have f2 := ck_fitb (h := max h m) (m := max h m) (a := 27 - b) (n := 27 - b) (top := 3) (by omega) (by omega) (by omega)
  rw [show 27 - b - (27 - b) = 0 by omega, ck_pw_0, Int.mul_one] at f2
  have e := ck_pwa (b := ((3 : Nat) : Int)) (x := b) (y := 27 - b) (by omega) (by omega)
  rw [show b + (27 - b) = 27 by omega, show ck_pw ((3 : Nat) : Int) 27 = 7625597484987 by decide] at e
  have p1 := ck_pw_pos (b := h) (e := lk) hh.1
  have p2 := ck_pw_pos (b := m) (e := b - lk) hm.1
  have p3 := ck_pw_pos (b := max h m) (e := 27 - b) (by omega)
  generalize ck_pw h lk = x at *
  generalize ck_pw m (b - lk) = y at *
  generalize ck_pw (max h m) (27 - b) = z at *
  generalize ck_pw ((3 : Nat) : Int) b = q at *
  generalize ck_pw ((3 : Nat) : Int) (27 - b) = q' at *
  have xy : 1 * 1 ≤ x * y := Int.mul_le_mul p1 p2 (by decide) (by omega)
  have a1 : (x * y) * z ≤ q * q' := Int.mul_le_mul f1 f2 (by omega) (by omega)
  have a0 : 1 * 1 ≤ (x * y) * z := Int.mul_le_mul (by omega) p3 (by decide) (by omega)
  rw [e] at a1
  rw [Int.mul_assoc wt]
  have b1 : wt * ((x * y) * z) ≤ 99 * 7625597484987 := Int.mul_le_mul hw.2 a1 (by omega) (by decide)
  have b0 : 1 * 1 ≤ wt * ((x * y) * z) := Int.mul_le_mul hw.1 (by omega) (by decide) (by omega)
  omega
/-- the chance of a word, by the shapes of its boxes -/
def cb_wc (w : ck_W) (o : Int) : Nat → Int → Int → Int → Int
  | 0, _, lk, b => w 19 o * (ck_pw (w 15 6) lk * ck_pw (w 15 7) (b - lk)) * ck_pw (max (w 15 6) (w 15 7)) (27 - b)
  | n + 1, i, lk, b => if w 18 (o * 3 + i) = -1 then cb_wc w o n (i + 1) lk b else if w 73 i = -1 then 0 else cb_wc w o n (i + 1) (lk + (9 - ck_on 9 (ck_xor (w 16 (w 18 (o * 3 + i))) (w 73 i)))) (b + 9)
theorem cb_wc_fr {w w' : ck_W} (h : ∀ k, 15 ≤ k → k ≤ 19 → w' k = w k) (h73 : w' 73 = w 73) (o : Int) : ∀ (n : Nat) (i lk b : Int), cb_wc w' o n i lk b = cb_wc w o n i lk b
  | 0, _, _, _ => by rw [cb_wc, cb_wc, h 15 (by decide) (by decide), h 19 (by decide) (by decide)]
  | n + 1, i, lk, b => by
    rw [cb_wc, cb_wc, h 18 (by decide) (by decide), h 16 (by decide) (by decide), h73, cb_wc_fr h h73 o n, cb_wc_fr h h73 o n]
/-- shapes as they may be -/
def cb_sp (w : ck_W) : Prop := ∀ i, 0 ≤ i → i < 3 → -1 ≤ w 73 i ∧ w 73 i < 512
theorem cb_sl {w : ck_W} (hX : cs_X w) {o i : Int} (ho : 0 ≤ o ∧ o < w 15 5) (hi : 0 ≤ i ∧ i ≤ 2) : -1 ≤ w 18 (o * 3 + i) ∧ w 18 (o * 3 + i) < w 15 2 := by
  have x := hX.2.2.2.2 o ho.1 ho.2
  have l0 := hX.1.1
  have : i = 0 ∨ i = 1 ∨ i = 2 := by omega
  rcases this with e | e | e <;> subst e
  · rw [show o * 3 + 0 = o * 3 by omega]; omega
  · omega
  · omega
theorem cb_lb {w : ck_W} (hX : cs_X w) (hS : cb_sp w) {o i : Int} (ho : 0 ≤ o ∧ o < w 15 5) (hi : 0 ≤ i ∧ i ≤ 2) (h1 : ¬ w 18 (o * 3 + i) = -1) (h2 : ¬ w 73 i = -1) : (0 ≤ w 18 (o * 3 + i) ∧ w 18 (o * 3 + i) < w 15 2) ∧ (0 ≤ w 73 i ∧ w 73 i < 512) ∧ 0 ≤ 9 - ck_on 9 (ck_xor (w 16 (w 18 (o * 3 + i))) (w 73 i)) ∧ 9 - ck_on 9 (ck_xor (w 16 (w 18 (o * 3 + i))) (w 73 i)) ≤ 9 := by
  have s := cb_sl hX ho hi
  have t := hS i hi.1 (by omega)
  have a : 0 ≤ w 18 (o * 3 + i) ∧ w 18 (o * 3 + i) < w 15 2 := by omega
  have b : 0 ≤ w 73 i ∧ w 73 i < 512 := by omega
  have x := kb_xor9 (hX.1.2 _ a.1 a.2) b
  have ob := ck_onb x 9 (by omega)
  exact ⟨a, b, by omega⟩
theorem cb_wcb {w : ck_W} (hX : cs_X w) (hS : cb_sp w) {o : Int} (ho : 0 ≤ o ∧ o < w 15 5) : ∀ (n : Nat) (i lk b : Int), 0 ≤ i → i + n = 3 → 0 ≤ lk ∧ lk ≤ b → b ≤ 9 * i → 0 ≤ cb_wc w o n i lk b ∧ cb_wc w o n i lk b ≤ 754934151013713
  | 0, i, lk, b, h0, h1, h2, h3 => by
    rw [cb_wc]
    have x := (hX.2.2.2.2 o ho.1 ho.2).1
    have f := cb_fb x hX.2.2.1.1 hX.2.2.1.2 h2 (by omega)
    omega
  | n + 1, i, lk, b, h0, h1, h2, h3 => by
    rw [cb_wc]
    split
    · exact cb_wcb hX hS ho n (i + 1) lk b (by omega) (by omega) h2 (by omega)
    · split
      · omega
      · rename_i e1 e2
        have l := cb_lb hX hS ho (i := i) (by omega) e1 e2
        exact cb_wcb hX hS ho n (i + 1) _ _ (by omega) (by omega) (by omega) (by omega)
/-- a word that has a chance has its boxes -/
theorem cb_wcn {w : ck_W} {o : Int} : ∀ (n : Nat) (i lk b : Int), cb_wc w o n i lk b ≠ 0 → ∀ j, i ≤ j → j < i + n → w 18 (o * 3 + j) ≠ -1 → w 73 j ≠ -1
  | 0, i, lk, b, h, j, j0, j1, _ => by omega
  | n + 1, i, lk, b, h, j, j0, j1, hj => by
    rw [cb_wc] at h
    by_cases e : w 18 (o * 3 + i) = -1
    · rw [if_pos e] at h
      by_cases f : j = i
      · rw [f] at hj; exact absurd e hj
      · exact cb_wcn n (i + 1) lk b h j (by omega) (by omega) hj
    · rw [if_neg e] at h
      by_cases f : w 73 i = -1
      · rw [if_pos f] at h; exact absurd rfl h
      · rw [if_neg f] at h
        by_cases g : j = i
        · rw [g]; exact f
        · exact cb_wcn n (i + 1) _ _ h j (by omega) (by omega) hj
theorem dX0_wordChance_0 : decode cX0_wordChance 0 = .ok (.iconst 0, 1) := dk_3 (by decide +kernel)
theorem dX0_wordChance_1 : decode cX0_wordChance 1 = .ok (.istore_n 2, 1) := dk_61 (by decide +kernel)
theorem dX0_wordChance_2 : decode cX0_wordChance 2 = .ok (.iconst 0, 1) := dk_3 (by decide +kernel)
theorem dX0_wordChance_3 : decode cX0_wordChance 3 = .ok (.istore_n 3, 1) := dk_62 (by decide +kernel)
theorem dX0_wordChance_4 : decode cX0_wordChance 4 = .ok (.iconst 0, 1) := dk_3 (by decide +kernel)
theorem dX0_wordChance_5 : decode cX0_wordChance 5 = .ok (.istore 4, 2) := dk_54 (by decide +kernel)
theorem dX0_wordChance_7 : decode cX0_wordChance 7 = .ok (.iload 4, 2) := dk_21 (by decide +kernel)
theorem dX0_wordChance_9 : decode cX0_wordChance 9 = .ok (.iconst 3, 1) := dk_6 (by decide +kernel)
theorem dX0_wordChance_10 : decode cX0_wordChance 10 = .ok (.if_icmp .ge 62, 3) := dk_162 0 62 (by decide +kernel)
theorem dX0_wordChance_13 : decode cX0_wordChance 13 = .ok (.aload_n 0, 1) := dk_42 (by decide +kernel)
theorem dX0_wordChance_14 : decode cX0_wordChance 14 = .ok (.getfield 42, 3) := dk_180 0 42 (by decide +kernel)
theorem dX0_wordChance_17 : decode cX0_wordChance 17 = .ok (.iload_n 1, 1) := dk_27 (by decide +kernel)
theorem dX0_wordChance_18 : decode cX0_wordChance 18 = .ok (.iload 4, 2) := dk_21 (by decide +kernel)
theorem dX0_wordChance_20 : decode cX0_wordChance 20 = .ok (.invokevirtual 79, 3) := dk_182 0 79 (by decide +kernel)
theorem dX0_wordChance_23 : decode cX0_wordChance 23 = .ok (.istore 5, 2) := dk_54 (by decide +kernel)
theorem dX0_wordChance_25 : decode cX0_wordChance 25 = .ok (.iload 5, 2) := dk_21 (by decide +kernel)
theorem dX0_wordChance_27 : decode cX0_wordChance 27 = .ok (.iconst (-1), 1) := dk_2 (by decide +kernel)
theorem dX0_wordChance_28 : decode cX0_wordChance 28 = .ok (.if_icmp .eq 38, 3) := dk_159 0 38 (by decide +kernel)
theorem dX0_wordChance_31 : decode cX0_wordChance 31 = .ok (.aload_n 0, 1) := dk_42 (by decide +kernel)
theorem dX0_wordChance_32 : decode cX0_wordChance 32 = .ok (.getfield 9, 3) := dk_180 0 9 (by decide +kernel)
theorem dX0_wordChance_35 : decode cX0_wordChance 35 = .ok (.iload 4, 2) := dk_21 (by decide +kernel)
theorem dX0_wordChance_37 : decode cX0_wordChance 37 = .ok (.iaload, 1) := dk_46 (by decide +kernel)
theorem dX0_wordChance_38 : decode cX0_wordChance 38 = .ok (.iconst (-1), 1) := dk_2 (by decide +kernel)
theorem dX0_wordChance_39 : decode cX0_wordChance 39 = .ok (.if_icmp .ne 5, 3) := dk_160 0 5 (by decide +kernel)
theorem dX0_wordChance_42 : decode cX0_wordChance 42 = .ok (.lconst 0, 1) := dk_9 (by decide +kernel)
theorem dX0_wordChance_43 : decode cX0_wordChance 43 = .ok (.lreturn, 1) := dk_173 (by decide +kernel)
theorem dX0_wordChance_44 : decode cX0_wordChance 44 = .ok (.iload_n 2, 1) := dk_28 (by decide +kernel)
theorem dX0_wordChance_45 : decode cX0_wordChance 45 = .ok (.aload_n 0, 1) := dk_42 (by decide +kernel)
theorem dX0_wordChance_46 : decode cX0_wordChance 46 = .ok (.getfield 42, 3) := dk_180 0 42 (by decide +kernel)
theorem dX0_wordChance_49 : decode cX0_wordChance 49 = .ok (.iload 5, 2) := dk_21 (by decide +kernel)
theorem dX0_wordChance_51 : decode cX0_wordChance 51 = .ok (.aload_n 0, 1) := dk_42 (by decide +kernel)
theorem dX0_wordChance_52 : decode cX0_wordChance 52 = .ok (.getfield 9, 3) := dk_180 0 9 (by decide +kernel)
theorem dX0_wordChance_55 : decode cX0_wordChance 55 = .ok (.iload 4, 2) := dk_21 (by decide +kernel)
theorem dX0_wordChance_57 : decode cX0_wordChance 57 = .ok (.iaload, 1) := dk_46 (by decide +kernel)
theorem dX0_wordChance_58 : decode cX0_wordChance 58 = .ok (.invokevirtual 83, 3) := dk_182 0 83 (by decide +kernel)
theorem dX0_wordChance_61 : decode cX0_wordChance 61 = .ok (.iadd, 1) := dk_96 (by decide +kernel)
theorem dX0_wordChance_62 : decode cX0_wordChance 62 = .ok (.istore_n 2, 1) := dk_61 (by decide +kernel)
theorem dX0_wordChance_63 : decode cX0_wordChance 63 = .ok (.iinc 3 9, 3) := dk_132 9 (by decide +kernel)
theorem dX0_wordChance_66 : decode cX0_wordChance 66 = .ok (.iinc 4 1, 3) := dk_132 1 (by decide +kernel)
theorem dX0_wordChance_69 : decode cX0_wordChance 69 = .ok (.goto (-62), 3) := dk_167 255 194 (by decide +kernel)
theorem dX0_wordChance_72 : decode cX0_wordChance 72 = .ok (.aload_n 0, 1) := dk_42 (by decide +kernel)
theorem dX0_wordChance_73 : decode cX0_wordChance 73 = .ok (.getfield 42, 3) := dk_180 0 42 (by decide +kernel)
theorem dX0_wordChance_76 : decode cX0_wordChance 76 = .ok (.getfield 86, 3) := dk_180 0 86 (by decide +kernel)
theorem dX0_wordChance_79 : decode cX0_wordChance 79 = .ok (.aload_n 0, 1) := dk_42 (by decide +kernel)
theorem dX0_wordChance_80 : decode cX0_wordChance 80 = .ok (.getfield 42, 3) := dk_180 0 42 (by decide +kernel)
theorem dX0_wordChance_83 : decode cX0_wordChance 83 = .ok (.getfield 89, 3) := dk_180 0 89 (by decide +kernel)
theorem dX0_wordChance_86 : decode cX0_wordChance 86 = .ok (.invokestatic 92, 3) := dk_184 0 92 (by decide +kernel)
theorem dX0_wordChance_89 : decode cX0_wordChance 89 = .ok (.istore 4, 2) := dk_54 (by decide +kernel)
theorem dX0_wordChance_91 : decode cX0_wordChance 91 = .ok (.iload 4, 2) := dk_21 (by decide +kernel)
theorem dX0_wordChance_93 : decode cX0_wordChance 93 = .ok (.bipush 27, 2) := dk_16 27 (by decide +kernel)
theorem dX0_wordChance_95 : decode cX0_wordChance 95 = .ok (.iload_n 3, 1) := dk_29 (by decide +kernel)
theorem dX0_wordChance_96 : decode cX0_wordChance 96 = .ok (.isub, 1) := dk_100 (by decide +kernel)
theorem dX0_wordChance_97 : decode cX0_wordChance 97 = .ok (.invokestatic 97, 3) := dk_184 0 97 (by decide +kernel)
theorem dX0_wordChance_100 : decode cX0_wordChance 100 = .ok (.lstore 5, 2) := dk_55 (by decide +kernel)
theorem dX0_wordChance_102 : decode cX0_wordChance 102 = .ok (.aload_n 0, 1) := dk_42 (by decide +kernel)
theorem dX0_wordChance_103 : decode cX0_wordChance 103 = .ok (.getfield 42, 3) := dk_180 0 42 (by decide +kernel)
theorem dX0_wordChance_106 : decode cX0_wordChance 106 = .ok (.getfield 101, 3) := dk_180 0 101 (by decide +kernel)
theorem dX0_wordChance_109 : decode cX0_wordChance 109 = .ok (.iload_n 1, 1) := dk_27 (by decide +kernel)
theorem dX0_wordChance_110 : decode cX0_wordChance 110 = .ok (.iaload, 1) := dk_46 (by decide +kernel)
theorem dX0_wordChance_111 : decode cX0_wordChance 111 = .ok (.i2l, 1) := dk_133 (by decide +kernel)
theorem dX0_wordChance_112 : decode cX0_wordChance 112 = .ok (.aload_n 0, 1) := dk_42 (by decide +kernel)
theorem dX0_wordChance_113 : decode cX0_wordChance 113 = .ok (.getfield 42, 3) := dk_180 0 42 (by decide +kernel)
theorem dX0_wordChance_116 : decode cX0_wordChance 116 = .ok (.iload_n 2, 1) := dk_28 (by decide +kernel)
theorem dX0_wordChance_117 : decode cX0_wordChance 117 = .ok (.iload_n 3, 1) := dk_29 (by decide +kernel)
theorem dX0_wordChance_118 : decode cX0_wordChance 118 = .ok (.invokevirtual 104, 3) := dk_182 0 104 (by decide +kernel)
theorem dX0_wordChance_121 : decode cX0_wordChance 121 = .ok (.lmul, 1) := dk_105 (by decide +kernel)
theorem dX0_wordChance_122 : decode cX0_wordChance 122 = .ok (.lload 5, 2) := dk_22 (by decide +kernel)
theorem dX0_wordChance_124 : decode cX0_wordChance 124 = .ok (.lmul, 1) := dk_105 (by decide +kernel)
theorem dX0_wordChance_125 : decode cX0_wordChance 125 = .ok (.lreturn, 1) := dk_173 (by decide +kernel)
set_option maxRecDepth 8000 in
theorem e_X0_wordChance {g : ch_G} {A R : Nat} (hC : ck_Cx g A R) {d : Nat} {K : Option ck_V → ck_W → Prop} {w : ck_W} {a1 : Int} (h : ck_At (ch_C g A R) (d + 1) mX0_wordChance K 7 [some (.inr (.inr 72)), some (.inl a1), some (.inl 0), some (.inl 0), some (.inl 0), none, none] [] w) : ck_Ex (ch_C g A R) (d + 1) mX0_wordChance [.inr (.inr 72), .inl a1] w K :=
  ck_entry hC.1 [some (.inr (.inr 72)), some (.inl a1), none, none, none, none, none] (by decide) (Nat.le_of_ble_eq_true rfl) rfl (fun q => q) (ck_in (fun hl => (ck_iconst 1 rfl dX0_wordChance_0 rfl (ck_istore_n 2 rfl 2 [some (.inr (.inr 72)), some (.inl a1), some (.inl 0), none, none, none, none] dX0_wordChance_1 rfl (Nat.le_of_ble_eq_true rfl) rfl rfl (show ck_i 0 by decide) (ck_iconst 3 rfl dX0_wordChance_2 rfl (ck_istore_n 4 rfl 3 [some (.inr (.inr 72)), some (.inl a1), some (.inl 0), some (.inl 0), none, none, none] dX0_wordChance_3 rfl (Nat.le_of_ble_eq_true rfl) rfl rfl (show ck_i 0 by decide) (ck_iconst 5 rfl dX0_wordChance_4 rfl (ck_istore 7 rfl [some (.inr (.inr 72)), some (.inl a1), some (.inl 0), some (.inl 0), some (.inl 0), none, none] dX0_wordChance_5 (Nat.le_of_ble_eq_true rfl) rfl rfl (show ck_i 0 by decide) h))))))))
set_option maxRecDepth 8000 in
theorem r_X0_wordChance_7 {g : ch_G} {A R : Nat} (hC : ck_Cx g A R) {d : Nat} {K : Option ck_V → ck_W → Prop} {w : ck_W} {a1 a2 a3 a4 : Int} (h : (3 ≤ a4 → ck_i (27 - a3) ∧ ((0 ≤ (max (w 15 6) (w 15 7))) ∧ ((0 ≤ (27 - a3)) ∧ ((((max (w 15 6) (w 15 7)) ≤ 3 ∧ (27 - a3) ≤ 27) ∨ ((max (w 15 6) (w 15 7)) ≤ 10 ∧ (27 - a3) ≤ 12)) ∧ (∀ x9, x9 = ck_pw (max (w 15 6) (w 15 7)) (27 - a3) → (0 ≤ a1 ∧ a1 < 12) ∧ (ck_CJ (ch_C g A R) d mX2_chanceOf [.inr (.inr 15), .inl a2, .inl a3] w (fun v14 w13 => ck_l (((w 19 a1) * v14) * x9) ∧ (K (some (.inr (.inl (((w 19 a1) * v14) * x9)))) w13)))))))) ∧ (¬ 3 ≤ a4 → ck_CI (ch_C g A R) d mX2_letterOf [.inr (.inr 15), .inl a1, .inl a4] w (fun v19 w18 => (v19 = (-1) → ck_i (a4 + 1) ∧ (ck_At (ch_C g A R) (d + 1) mX0_wordChance K 7 [some (.inr (.inr 72)), some (.inl a1), some (.inl a2), some (.inl a3), some (.inl (a4 + 1)), none, none] [] w18)) ∧ (¬ v19 = (-1) → (0 ≤ a4 ∧ a4 < 3) ∧ ((¬ (w18 73 a4) = (-1) → ck_CI (ch_C g A R) d mX2_like [.inr (.inr 15), .inl v19, .inl (w18 73 a4)] w18 (fun v27 w26 => ck_i (a2 + v27) ∧ (ck_i (a3 + 9) ∧ (ck_i (a4 + 1) ∧ (ck_At (ch_C g A R) (d + 1) mX0_wordChance K 7 [some (.inr (.inr 72)), some (.inl a1), some (.inl (a2 + v27)), some (.inl (a3 + 9)), some (.inl (a4 + 1)), none, none] [] w26))))) ∧ ((w18 73 a4) = (-1) → K (some (.inr (.inl 0))) w18)))))) : ck_At (ch_C g A R) (d + 1) mX0_wordChance K 7 [some (.inr (.inr 72)), some (.inl a1), some (.inl a2), some (.inl a3), some (.inl a4), none, none] [] w :=
  ck_in (fun hl => (ck_iload 9 rfl dX0_wordChance_7 rfl (ck_iconst 10 rfl dX0_wordChance_9 rfl (ck_icmp_ge 13 rfl 72 dX0_wordChance_10 rfl hl.2.2.2.2.1 (show ck_i 3 by decide) (fun c37 => (ck_aload_n 73 rfl 0 dX0_wordChance_72 rfl rfl (ck_getr 76 rfl dX0_wordChance_73 fl_X0_42 sh_72 rfl (ck_geti 79 rfl 6 dX0_wordChance_76 fl_X0_86 sh_15 rfl rfl _ rfl (fun (q1 : ck_i (w 15 6)) => (ck_aload_n 80 rfl 0 dX0_wordChance_79 rfl rfl (ck_getr 83 rfl dX0_wordChance_80 fl_X0_42 sh_72 rfl (ck_geti 86 rfl 7 dX0_wordChance_83 fl_X0_89 sh_15 rfl rfl _ rfl (fun (q2 : ck_i (w 15 7)) => (ck_callS 89 rfl [.inl (w 15 6), .inl (w 15 7)] [] dX0_wordChance_86 cs_X0_92 rfl rfl (Nat.le_of_ble_eq_true rfl) (And.intro q1 (And.intro q2 True.intro)) (p_J9_max_7cf53 hC (fun q3 => (ck_istore 91 rfl [some (.inr (.inr 72)), some (.inl a1), some (.inl a2), some (.inl a3), some (.inl (max (w 15 6) (w 15 7))), none, none] dX0_wordChance_89 (Nat.le_of_ble_eq_true rfl) rfl rfl q3.1 (ck_iload 93 rfl dX0_wordChance_91 rfl (ck_bipush 95 rfl dX0_wordChance_93 rfl (ck_iload_n 96 rfl 3 dX0_wordChance_95 rfl rfl (ck_isub 97 rfl dX0_wordChance_96 (have h40 := (h.1 c37); have o4 := h40.1; have h39 := h40.2; (have h42 := h39; have o5 := h42.1; have h41 := h42.2; (have h44 := h41; have o6 := h44.1; have h43 := h44.2; (have h46 := h43; have o7 := h46.1; have h45 := h46.2; (ck_callSN 100 rfl [.inl (max (w 15 6) (w 15 7)), .inl (27 - a3)] [] dX0_wordChance_97 cn_X0_97 rfl rfl (Nat.le_of_ble_eq_true rfl) (And.intro q3.1 (And.intro o4 True.intro)) (p_X11_power hC o5 o6 o7 (fun q8 => (ck_nml (fun x9 e10 => (ck_lstore 102 rfl [some (.inr (.inr 72)), some (.inl a1), some (.inl a2), some (.inl a3), some (.inl (max (w 15 6) (w 15 7))), some (.inr (.inl x9)), none] dX0_wordChance_100 (Nat.le_of_ble_eq_true rfl) rfl rfl (by rw [e10]; exact q8.1) (ck_aload_n 103 rfl 0 dX0_wordChance_102 rfl rfl (ck_getr 106 rfl dX0_wordChance_103 fl_X0_42 sh_72 rfl (ck_getr 109 rfl dX0_wordChance_106 fl_X0_101 sh_15 rfl (ck_iload_n 110 rfl 1 dX0_wordChance_109 rfl rfl (have h48 := (h45 x9 e10); have o11 := h48.1; have h47 := h48.2; (ck_iald 111 rfl dX0_wordChance_110 sh_19 (shn_19 hC) o11 _ rfl (fun (q12 : ck_i (w 19 a1)) => (ck_i2l 112 rfl dX0_wordChance_111 q12 (ck_aload_n 113 rfl 0 dX0_wordChance_112 rfl rfl (ck_getr 116 rfl dX0_wordChance_113 fl_X0_42 sh_72 rfl (ck_iload_n 117 rfl 2 dX0_wordChance_116 rfl rfl (ck_iload_n 118 rfl 3 dX0_wordChance_117 rfl rfl (ck_callV 121 rfl [.inl a2, .inl a3] [.inr (.inl (w 19 a1))] dX0_wordChance_118 cv_X0_104 sh_15 rfl rfl (Nat.le_of_ble_eq_true rfl) (And.intro hl.2.2.1 (And.intro hl.2.2.2.1 True.intro)) (ck_mJ h47 (fun v14 w13 q15 h16 => (ck_lmul 122 rfl dX0_wordChance_121 (ck_lload 124 rfl dX0_wordChance_122 rfl (ck_lmul 125 rfl dX0_wordChance_124 (have h50 := h16; have o17 := h50.1; have h49 := h50.2; (ck_lret dX0_wordChance_125 rfl o17 h49))))))))))))))))))))))))))))))))))))))))))))))) (fun c38 => (ck_aload_n 14 rfl 0 dX0_wordChance_13 rfl rfl (ck_getr 17 rfl dX0_wordChance_14 fl_X0_42 sh_72 rfl (ck_iload_n 18 rfl 1 dX0_wordChance_17 rfl rfl (ck_iload 20 rfl dX0_wordChance_18 rfl (ck_callV 23 rfl [.inl a1, .inl a4] [] dX0_wordChance_20 cv_X0_79 sh_15 rfl rfl (Nat.le_of_ble_eq_true rfl) (And.intro hl.2.1 (And.intro hl.2.2.2.2.1 True.intro)) (ck_mI (h.2 c38) (fun v19 w18 q20 h21 => (ck_istore 25 rfl [some (.inr (.inr 72)), some (.inl a1), some (.inl a2), some (.inl a3), some (.inl a4), some (.inl v19), none] dX0_wordChance_23 (Nat.le_of_ble_eq_true rfl) rfl rfl q20 (ck_iload 27 rfl dX0_wordChance_25 rfl (ck_iconst 28 rfl dX0_wordChance_27 rfl (ck_icmp_eq 31 rfl 66 dX0_wordChance_28 rfl q20 (show ck_i (-1) by decide) (fun c35 => (have h52 := (h21.1 c35); have o22 := h52.1; have h51 := h52.2; (ck_iinc 69 rfl [some (.inr (.inr 72)), some (.inl a1), some (.inl a2), some (.inl a3), some (.inl (a4 + 1)), some (.inl v19), none] dX0_wordChance_66 rfl (Nat.le_of_ble_eq_true rfl) rfl rfl o22 (ck_goto 7 dX0_wordChance_69 rfl (ck_drop [some (.inr (.inr 72)), some (.inl a1), some (.inl a2), some (.inl a3), some (.inl (a4 + 1)), none, none] (And.intro rfl (And.intro rfl (And.intro rfl (And.intro rfl (And.intro rfl True.intro))))) h51))))) (fun c36 => (ck_aload_n 32 rfl 0 dX0_wordChance_31 rfl rfl (ck_getr 35 rfl dX0_wordChance_32 fl_X0_9 sh_72 rfl (ck_iload 37 rfl dX0_wordChance_35 rfl (have h54 := (h21.2 c36); have o23 := h54.1; have h53 := h54.2; (ck_iald 38 rfl dX0_wordChance_37 sh_73 (shn_73 hC) o23 _ rfl (fun (q24 : ck_i (w18 73 a4)) => (ck_iconst 39 rfl dX0_wordChance_38 rfl (ck_icmp_ne 42 rfl 44 dX0_wordChance_39 rfl q24 (show ck_i (-1) by decide) (fun c33 => (ck_iload_n 45 rfl 2 dX0_wordChance_44 rfl rfl (ck_aload_n 46 rfl 0 dX0_wordChance_45 rfl rfl (ck_getr 49 rfl dX0_wordChance_46 fl_X0_42 sh_72 rfl (ck_iload 51 rfl dX0_wordChance_49 rfl (ck_aload_n 52 rfl 0 dX0_wordChance_51 rfl rfl (ck_getr 55 rfl dX0_wordChance_52 fl_X0_9 sh_72 rfl (ck_iload 57 rfl dX0_wordChance_55 rfl (ck_iald 58 rfl dX0_wordChance_57 sh_73 (shn_73 hC) o23 _ rfl (fun (q25 : ck_i (w18 73 a4)) => (ck_callV 61 rfl [.inl v19, .inl (w18 73 a4)] [.inl a2] dX0_wordChance_58 cv_X0_83 sh_15 rfl rfl (Nat.le_of_ble_eq_true rfl) (And.intro q20 (And.intro q25 True.intro)) (ck_mI (h53.1 c33) (fun v27 w26 q28 h29 => (ck_iadd 62 rfl dX0_wordChance_61 (have h56 := h29; have o30 := h56.1; have h55 := h56.2; (ck_istore_n 63 rfl 2 [some (.inr (.inr 72)), some (.inl a1), some (.inl (a2 + v27)), some (.inl a3), some (.inl a4), some (.inl v19), none] dX0_wordChance_62 rfl (Nat.le_of_ble_eq_true rfl) rfl rfl o30 (have h58 := h55; have o31 := h58.1; have h57 := h58.2; (ck_iinc 66 rfl [some (.inr (.inr 72)), some (.inl a1), some (.inl (a2 + v27)), some (.inl (a3 + 9)), some (.inl a4), some (.inl v19), none] dX0_wordChance_63 rfl (Nat.le_of_ble_eq_true rfl) rfl rfl o31 (have h60 := h57; have o32 := h60.1; have h59 := h60.2; (ck_iinc 69 rfl [some (.inr (.inr 72)), some (.inl a1), some (.inl (a2 + v27)), some (.inl (a3 + 9)), some (.inl (a4 + 1)), some (.inl v19), none] dX0_wordChance_66 rfl (Nat.le_of_ble_eq_true rfl) rfl rfl o32 (ck_goto 7 dX0_wordChance_69 rfl (ck_drop [some (.inr (.inr 72)), some (.inl a1), some (.inl (a2 + v27)), some (.inl (a3 + 9)), some (.inl (a4 + 1)), none, none] (And.intro rfl (And.intro rfl (And.intro rfl (And.intro rfl (And.intro rfl True.intro))))) h59)))))))))))))))))))))) (fun c34 => (ck_lconst 43 rfl 0 dX0_wordChance_42 rfl (ck_lret dX0_wordChance_43 rfl (show ck_l 0 by decide) (h53.2 c34)))))))))))))))))))))))))))))
theorem p_X0_wordChance {g : ch_G} {A R : Nat} (hC : ck_Cx g A R) {d : Nat} {K : Option ck_V → ck_W → Prop} {w : ck_W} {a1 : Int} (hX : cs_X w) (hS : cb_sp w) (h1 : 0 ≤ a1 ∧ a1 < w 15 5) (h : K (some (.inr (.inl (cb_wc w a1 3 0 0 0)))) w) : ck_Ex (ch_C g A R) (d + 3) mX0_wordChance [.inr (.inr 72), .inl a1] w K := by
  have n5 := hX.2.2.2.1
  have hm := hX.2.2.1
  have hh := hm.1
  have mm := hm.2
  have lp : ∀ (n : Nat) (i lk b : Int), 3 - i = n → 0 ≤ i → 0 ≤ lk ∧ lk ≤ b → b ≤ 9 * i → K (some (.inr (.inl (cb_wc w a1 n i lk b)))) w → ck_At (ch_C g A R) (d + 3) mX0_wordChance K 7 [some (.inr (.inr 72)), some (.inl a1), some (.inl lk), some (.inl b), some (.inl i), none, none] [] w := by
    intro n
    induction n with
    | zero =>
      intro i lk b g1 g2 g3 g4 h
      rw [cb_wc] at h
      have f := cb_fb (hX.2.2.2.2 a1 h1.1 h1.2).1 hm.1 hm.2 g3 (b := b) (by omega)
      refine r_X0_wordChance_7 hC ⟨fun _ => ⟨by constructor <;> omega, by omega, by omega, by omega, fun x9 e9 => ⟨by omega, p_X2_chanceOf hC hm (by omega) (by omega) ⟨_, rfl, fun _ => ?_⟩⟩⟩, fun q => absurd (by omega) q⟩
      rw [e9]
      dsimp only
      generalize w 19 a1 * (ck_pw (w 15 6) lk * ck_pw (w 15 7) (b - lk)) * ck_pw (max (w 15 6) (w 15 7)) (27 - b) = v at *
      exact ⟨by constructor <;> omega, h⟩
    | succ n ih =>
      intro i lk b g1 g2 g3 g4 h
      rw [cb_wc] at h
      refine r_X0_wordChance_7 hC ⟨fun q => absurd q (by omega), fun _ => p_X2_letterOf hC n5 h1 (by omega) ⟨_, rfl, fun _ => ⟨fun z => ⟨by constructor <;> omega, ih (i + 1) lk b (by omega) (by omega) g3 (by omega) (by rw [if_pos z] at h; exact h)⟩, fun z => ⟨by omega, fun z2 => ?_, fun z2 => by rw [if_neg z, if_pos z2] at h; exact h⟩⟩⟩⟩
      have l := cb_lb hX hS h1 (i := i) (by omega) z z2
      rw [if_neg z, if_neg z2] at h
      exact p_X2_like hC hX.1 l.2.1 l.1 ⟨_, rfl, fun _ => ⟨by constructor <;> omega, by constructor <;> omega, by constructor <;> omega, ih (i + 1) _ _ (by omega) (by omega) (by omega) (by omega) h⟩⟩
  exact e_X0_wordChance hC (lp 3 0 0 0 (by omega) (by omega) (by omega) (by omega) h)
def cb_bw (f : Int → Int) : Nat → Int
  | 0 => -1
  | n + 1 => if f n ≤ 0 then cb_bw f n else if cb_bw f n = -1 then n else if f n ≤ f (cb_bw f n) then cb_bw f n else n
theorem cb_bwb (f : Int → Int) : ∀ n : Nat, cb_bw f n = -1 ∨ (0 ≤ cb_bw f n ∧ cb_bw f n < n ∧ 0 < f (cb_bw f n))
  | 0 => Or.inl rfl
  | n + 1 => by
    have i := cb_bwb f n
    rw [cb_bw]
    split
    · rcases i with e | e
      · exact Or.inl e
      · exact Or.inr ⟨e.1, by omega, e.2.2⟩
    · split
      · exact Or.inr ⟨by omega, by omega, by omega⟩
      · split
        · rcases i with e | e
          · exact Or.inl e
          · exact Or.inr ⟨e.1, by omega, e.2.2⟩
        · exact Or.inr ⟨by omega, by omega, by omega⟩
theorem cs_sm_b {f : Int → Int} {B : Int} : ∀ n : Nat, (∀ k : Int, 0 ≤ k → k < n → 0 ≤ f k ∧ f k ≤ B) → 0 ≤ cs_sm f n ∧ cs_sm f n ≤ B * n ∧ ∀ k : Int, 0 ≤ k → k < n → f k ≤ cs_sm f n
  | 0, _ => by rw [cs_sm]; exact ⟨by omega, by omega, fun k a b => by omega⟩
  | n + 1, h => by
    have i := cs_sm_b n (fun k a b => h k a (by omega))
    have x := h n (by omega) (by omega)
    rw [cs_sm]
    have e : B * ((n + 1 : Nat) : Int) = B * n + B := by rw [show ((n + 1 : Nat) : Int) = (n : Int) + 1 by omega, Int.mul_add, Int.mul_one]
    refine ⟨by omega, by omega, fun k a b => ?_⟩
    by_cases z : k = n
    · rw [z]; omega
    · have := i.2.2 k a (by omega); omega
/-- what a look leaves -/
def cb_LK (A R : Nat) (w w' : ck_W) (r z p : Int) : Prop := (∀ k, k < 70 ∨ 75 ≤ k → w' k = w k) ∧ ((¬ cs_pl A z p ∧ w' 72 7 = -1) ∨ (cs_pl A z p ∧ cb_sp w' ∧ (∀ i, 0 ≤ i → i < 3 → (((0 ≤ r ∧ r < w 10 3) ∧ cb_is A w z (p + 3 * i)) ∧ w' 73 i ≠ -1 ∧ (cv_J A R w → w' 73 i = cb_or (fun a b => cv_ij A R w r (z + a) (p + 3 * i + b) (fun _ => 0)) 9)) ∨ (¬ ((0 ≤ r ∧ r < w 10 3) ∧ cb_is A w z (p + 3 * i)) ∧ w' 73 i = -1)) ∧ (∀ k, 0 ≤ k → k < w 15 5 → w' 74 k = cb_wc w' k 3 0 0 0) ∧ w' 72 6 = cs_sm (fun k => cb_wc w' k 3 0 0 0) (w 15 5).toNat ∧ w' 72 7 = cb_bw (fun k => cb_wc w' k 3 0 0 0) (w 15 5).toNat))
theorem dX0_look_0 : decode cX0_look 0 = .ok (.aload_n 0, 1) := dk_42 (by decide +kernel)
theorem dX0_look_1 : decode cX0_look 1 = .ok (.iconst (-1), 1) := dk_2 (by decide +kernel)
theorem dX0_look_2 : decode cX0_look 2 = .ok (.putfield 19, 3) := dk_181 0 19 (by decide +kernel)
theorem dX0_look_5 : decode cX0_look 5 = .ok (.aload_n 0, 1) := dk_42 (by decide +kernel)
theorem dX0_look_6 : decode cX0_look 6 = .ok (.lconst 0, 1) := dk_9 (by decide +kernel)
theorem dX0_look_7 : decode cX0_look 7 = .ok (.putfield 57, 3) := dk_181 0 57 (by decide +kernel)
theorem dX0_look_10 : decode cX0_look 10 = .ok (.aload_n 0, 1) := dk_42 (by decide +kernel)
theorem dX0_look_11 : decode cX0_look 11 = .ok (.getfield 32, 3) := dk_180 0 32 (by decide +kernel)
theorem dX0_look_14 : decode cX0_look 14 = .ok (.iload_n 2, 1) := dk_28 (by decide +kernel)
theorem dX0_look_15 : decode cX0_look 15 = .ok (.iload_n 3, 1) := dk_29 (by decide +kernel)
theorem dX0_look_16 : decode cX0_look 16 = .ok (.invokevirtual 61, 3) := dk_182 0 61 (by decide +kernel)
theorem dX0_look_19 : decode cX0_look 19 = .ok (.ifCond .ne 4, 3) := dk_154 0 4 (by decide +kernel)
theorem dX0_look_22 : decode cX0_look 22 = .ok (.return_, 1) := dk_177 (by decide +kernel)
theorem dX0_look_23 : decode cX0_look 23 = .ok (.iconst 0, 1) := dk_3 (by decide +kernel)
theorem dX0_look_24 : decode cX0_look 24 = .ok (.istore 4, 2) := dk_54 (by decide +kernel)
theorem dX0_look_26 : decode cX0_look 26 = .ok (.iload 4, 2) := dk_21 (by decide +kernel)
theorem dX0_look_28 : decode cX0_look 28 = .ok (.iconst 3, 1) := dk_6 (by decide +kernel)
theorem dX0_look_29 : decode cX0_look 29 = .ok (.if_icmp .ge 28, 3) := dk_162 0 28 (by decide +kernel)
theorem dX0_look_32 : decode cX0_look 32 = .ok (.aload_n 0, 1) := dk_42 (by decide +kernel)
theorem dX0_look_33 : decode cX0_look 33 = .ok (.getfield 9, 3) := dk_180 0 9 (by decide +kernel)
theorem dX0_look_36 : decode cX0_look 36 = .ok (.iload 4, 2) := dk_21 (by decide +kernel)
theorem dX0_look_38 : decode cX0_look 38 = .ok (.aload_n 0, 1) := dk_42 (by decide +kernel)
theorem dX0_look_39 : decode cX0_look 39 = .ok (.iload_n 1, 1) := dk_27 (by decide +kernel)
theorem dX0_look_40 : decode cX0_look 40 = .ok (.iload_n 2, 1) := dk_28 (by decide +kernel)
theorem dX0_look_41 : decode cX0_look 41 = .ok (.iload_n 3, 1) := dk_29 (by decide +kernel)
theorem dX0_look_42 : decode cX0_look 42 = .ok (.iconst 3, 1) := dk_6 (by decide +kernel)
theorem dX0_look_43 : decode cX0_look 43 = .ok (.iload 4, 2) := dk_21 (by decide +kernel)
theorem dX0_look_45 : decode cX0_look 45 = .ok (.imul, 1) := dk_104 (by decide +kernel)
theorem dX0_look_46 : decode cX0_look 46 = .ok (.iadd, 1) := dk_96 (by decide +kernel)
theorem dX0_look_47 : decode cX0_look 47 = .ok (.invokevirtual 67, 3) := dk_182 0 67 (by decide +kernel)
theorem dX0_look_50 : decode cX0_look 50 = .ok (.iastore, 1) := dk_79 (by decide +kernel)
theorem dX0_look_51 : decode cX0_look 51 = .ok (.iinc 4 1, 3) := dk_132 1 (by decide +kernel)
theorem dX0_look_54 : decode cX0_look 54 = .ok (.goto (-28), 3) := dk_167 255 228 (by decide +kernel)
theorem dX0_look_57 : decode cX0_look 57 = .ok (.iconst 0, 1) := dk_3 (by decide +kernel)
theorem dX0_look_58 : decode cX0_look 58 = .ok (.istore 4, 2) := dk_54 (by decide +kernel)
theorem dX0_look_60 : decode cX0_look 60 = .ok (.iload 4, 2) := dk_21 (by decide +kernel)
theorem dX0_look_62 : decode cX0_look 62 = .ok (.aload_n 0, 1) := dk_42 (by decide +kernel)
theorem dX0_look_63 : decode cX0_look 63 = .ok (.getfield 42, 3) := dk_180 0 42 (by decide +kernel)
theorem dX0_look_66 : decode cX0_look 66 = .ok (.getfield 70, 3) := dk_180 0 70 (by decide +kernel)
theorem dX0_look_69 : decode cX0_look 69 = .ok (.if_icmp .ge 84, 3) := dk_162 0 84 (by decide +kernel)
theorem dX0_look_72 : decode cX0_look 72 = .ok (.aload_n 0, 1) := dk_42 (by decide +kernel)
theorem dX0_look_73 : decode cX0_look 73 = .ok (.getfield 15, 3) := dk_180 0 15 (by decide +kernel)
theorem dX0_look_76 : decode cX0_look 76 = .ok (.iload 4, 2) := dk_21 (by decide +kernel)
theorem dX0_look_78 : decode cX0_look 78 = .ok (.aload_n 0, 1) := dk_42 (by decide +kernel)
theorem dX0_look_79 : decode cX0_look 79 = .ok (.iload 4, 2) := dk_21 (by decide +kernel)
theorem dX0_look_81 : decode cX0_look 81 = .ok (.invokevirtual 75, 3) := dk_182 0 75 (by decide +kernel)
theorem dX0_look_84 : decode cX0_look 84 = .ok (.lastore, 1) := dk_80 (by decide +kernel)
theorem dX0_look_85 : decode cX0_look 85 = .ok (.aload_n 0, 1) := dk_42 (by decide +kernel)
theorem dX0_look_86 : decode cX0_look 86 = .ok (.dup, 1) := dk_89 (by decide +kernel)
theorem dX0_look_87 : decode cX0_look 87 = .ok (.getfield 57, 3) := dk_180 0 57 (by decide +kernel)
theorem dX0_look_90 : decode cX0_look 90 = .ok (.aload_n 0, 1) := dk_42 (by decide +kernel)
theorem dX0_look_91 : decode cX0_look 91 = .ok (.getfield 15, 3) := dk_180 0 15 (by decide +kernel)
theorem dX0_look_94 : decode cX0_look 94 = .ok (.iload 4, 2) := dk_21 (by decide +kernel)
theorem dX0_look_96 : decode cX0_look 96 = .ok (.laload, 1) := dk_47 (by decide +kernel)
theorem dX0_look_97 : decode cX0_look 97 = .ok (.ladd, 1) := dk_97 (by decide +kernel)
theorem dX0_look_98 : decode cX0_look 98 = .ok (.putfield 57, 3) := dk_181 0 57 (by decide +kernel)
theorem dX0_look_101 : decode cX0_look 101 = .ok (.aload_n 0, 1) := dk_42 (by decide +kernel)
theorem dX0_look_102 : decode cX0_look 102 = .ok (.getfield 15, 3) := dk_180 0 15 (by decide +kernel)
theorem dX0_look_105 : decode cX0_look 105 = .ok (.iload 4, 2) := dk_21 (by decide +kernel)
theorem dX0_look_107 : decode cX0_look 107 = .ok (.laload, 1) := dk_47 (by decide +kernel)
theorem dX0_look_108 : decode cX0_look 108 = .ok (.lconst 0, 1) := dk_9 (by decide +kernel)
theorem dX0_look_109 : decode cX0_look 109 = .ok (.lcmp, 1) := dk_148 (by decide +kernel)
theorem dX0_look_110 : decode cX0_look 110 = .ok (.ifCond .le 37, 3) := dk_158 0 37 (by decide +kernel)
theorem dX0_look_113 : decode cX0_look 113 = .ok (.aload_n 0, 1) := dk_42 (by decide +kernel)
theorem dX0_look_114 : decode cX0_look 114 = .ok (.getfield 19, 3) := dk_180 0 19 (by decide +kernel)
theorem dX0_look_117 : decode cX0_look 117 = .ok (.iconst (-1), 1) := dk_2 (by decide +kernel)
theorem dX0_look_118 : decode cX0_look 118 = .ok (.if_icmp .eq 23, 3) := dk_159 0 23 (by decide +kernel)
theorem dX0_look_121 : decode cX0_look 121 = .ok (.aload_n 0, 1) := dk_42 (by decide +kernel)
theorem dX0_look_122 : decode cX0_look 122 = .ok (.getfield 15, 3) := dk_180 0 15 (by decide +kernel)
theorem dX0_look_125 : decode cX0_look 125 = .ok (.iload 4, 2) := dk_21 (by decide +kernel)
theorem dX0_look_127 : decode cX0_look 127 = .ok (.laload, 1) := dk_47 (by decide +kernel)
theorem dX0_look_128 : decode cX0_look 128 = .ok (.aload_n 0, 1) := dk_42 (by decide +kernel)
theorem dX0_look_129 : decode cX0_look 129 = .ok (.getfield 15, 3) := dk_180 0 15 (by decide +kernel)
theorem dX0_look_132 : decode cX0_look 132 = .ok (.aload_n 0, 1) := dk_42 (by decide +kernel)
theorem dX0_look_133 : decode cX0_look 133 = .ok (.getfield 19, 3) := dk_180 0 19 (by decide +kernel)
theorem dX0_look_136 : decode cX0_look 136 = .ok (.laload, 1) := dk_47 (by decide +kernel)
theorem dX0_look_137 : decode cX0_look 137 = .ok (.lcmp, 1) := dk_148 (by decide +kernel)
theorem dX0_look_138 : decode cX0_look 138 = .ok (.ifCond .le 9, 3) := dk_158 0 9 (by decide +kernel)
theorem dX0_look_141 : decode cX0_look 141 = .ok (.aload_n 0, 1) := dk_42 (by decide +kernel)
theorem dX0_look_142 : decode cX0_look 142 = .ok (.iload 4, 2) := dk_21 (by decide +kernel)
theorem dX0_look_144 : decode cX0_look 144 = .ok (.putfield 19, 3) := dk_181 0 19 (by decide +kernel)
theorem dX0_look_147 : decode cX0_look 147 = .ok (.iinc 4 1, 3) := dk_132 1 (by decide +kernel)
theorem dX0_look_150 : decode cX0_look 150 = .ok (.goto (-90), 3) := dk_167 255 166 (by decide +kernel)
theorem dX0_look_153 : decode cX0_look 153 = .ok (.return_, 1) := dk_177 (by decide +kernel)
set_option maxRecDepth 8000 in
theorem e_X0_look {g : ch_G} {A R : Nat} (hC : ck_Cx g A R) {d : Nat} {K : Option ck_V → ck_W → Prop} {w : ck_W} {a1 a2 a3 : Int} (h : ck_CI (ch_C g A R) d mX5_mayHavePlace [.inr (.inr 3), .inl a2, .inl a3] (ck_up (ck_up w 72 7 (-1)) 72 6 0) (fun v2 w1 => (¬ v2 = 0 → ck_At (ch_C g A R) (d + 1) mX0_look K 26 [some (.inr (.inr 72)), some (.inl a1), some (.inl a2), some (.inl a3), some (.inl 0)] [] w1) ∧ (v2 = 0 → K none w1))) : ck_Ex (ch_C g A R) (d + 1) mX0_look [.inr (.inr 72), .inl a1, .inl a2, .inl a3] w K :=
  ck_entry hC.1 [some (.inr (.inr 72)), some (.inl a1), some (.inl a2), some (.inl a3), none] (by decide) (Nat.le_of_ble_eq_true rfl) rfl (fun q => q) (ck_in (fun hl => (ck_aload_n 1 rfl 0 dX0_look_0 rfl rfl (ck_iconst 2 rfl dX0_look_1 rfl (ck_puti 5 rfl 7 dX0_look_2 fp_X0_19 sh_72 rfl rfl (show ck_i (-1) by decide) (ck_aload_n 6 rfl 0 dX0_look_5 rfl rfl (ck_lconst 7 rfl 0 dX0_look_6 rfl (ck_putl 10 rfl 6 dX0_look_7 fp_X0_57 sh_72 rfl rfl (show ck_l 0 by decide) (ck_aload_n 11 rfl 0 dX0_look_10 rfl rfl (ck_getr 14 rfl dX0_look_11 fl_X0_32 sh_72 rfl (ck_iload_n 15 rfl 2 dX0_look_14 rfl rfl (ck_iload_n 16 rfl 3 dX0_look_15 rfl rfl (ck_callV 19 rfl [.inl a2, .inl a3] [] dX0_look_16 cv_X0_61 sh_3 rfl rfl (Nat.le_of_ble_eq_true rfl) (And.intro hl.2.2.1 (And.intro hl.2.2.2.1 True.intro)) (ck_mI h (fun v2 w1 q3 h4 => (ck_if_ne 22 rfl 23 dX0_look_19 rfl q3 (fun c5 => (ck_iconst 24 rfl dX0_look_23 rfl (ck_istore 26 rfl [some (.inr (.inr 72)), some (.inl a1), some (.inl a2), some (.inl a3), some (.inl 0)] dX0_look_24 (Nat.le_of_ble_eq_true rfl) rfl rfl (show ck_i 0 by decide) (h4.1 c5)))) (fun c6 => (ck_vret dX0_look_22 rfl (h4.2 c6)))))))))))))))))))
set_option maxRecDepth 8000 in
theorem r_X0_look_26 {g : ch_G} {A R : Nat} (hC : ck_Cx g A R) {d : Nat} {K : Option ck_V → ck_W → Prop} {w : ck_W} {a1 a2 a3 a4 : Int} (h : (3 ≤ a4 → ck_At (ch_C g A R) (d + 1) mX0_look K 60 [some (.inr (.inr 72)), none, none, none, some (.inl 0)] [] w) ∧ (¬ 3 ≤ a4 → ck_i (a3 + (3 * a4)) ∧ (ck_CI (ch_C g A R) d mX0_shapeAt [.inr (.inr 72), .inl a1, .inl a2, .inl (a3 + (3 * a4))] w (fun v3 w2 => (0 ≤ a4 ∧ a4 < 3) ∧ (ck_i (a4 + 1) ∧ (ck_At (ch_C g A R) (d + 1) mX0_look K 26 [some (.inr (.inr 72)), some (.inl a1), some (.inl a2), some (.inl a3), some (.inl (a4 + 1))] [] (ck_up w2 73 a4 v3))))))) : ck_At (ch_C g A R) (d + 1) mX0_look K 26 [some (.inr (.inr 72)), some (.inl a1), some (.inl a2), some (.inl a3), some (.inl a4)] [] w :=
  ck_in (fun hl => (ck_iload 28 rfl dX0_look_26 rfl (ck_iconst 29 rfl dX0_look_28 rfl (ck_icmp_ge 32 rfl 57 dX0_look_29 rfl hl.2.2.2.2.1 (show ck_i 3 by decide) (fun c8 => (ck_iconst 58 rfl dX0_look_57 rfl (ck_istore 60 rfl [some (.inr (.inr 72)), some (.inl a1), some (.inl a2), some (.inl a3), some (.inl 0)] dX0_look_58 (Nat.le_of_ble_eq_true rfl) rfl rfl (show ck_i 0 by decide) (ck_drop [some (.inr (.inr 72)), none, none, none, some (.inl 0)] (And.intro rfl (And.intro rfl True.intro)) (h.1 c8))))) (fun c9 => (ck_aload_n 33 rfl 0 dX0_look_32 rfl rfl (ck_getr 36 rfl dX0_look_33 fl_X0_9 sh_72 rfl (ck_iload 38 rfl dX0_look_36 rfl (ck_aload_n 39 rfl 0 dX0_look_38 rfl rfl (ck_iload_n 40 rfl 1 dX0_look_39 rfl rfl (ck_iload_n 41 rfl 2 dX0_look_40 rfl rfl (ck_iload_n 42 rfl 3 dX0_look_41 rfl rfl (ck_iconst 43 rfl dX0_look_42 rfl (ck_iload 45 rfl dX0_look_43 rfl (ck_imul 46 rfl dX0_look_45 (ck_iadd 47 rfl dX0_look_46 (have h11 := (h.2 c9); have o1 := h11.1; have h10 := h11.2; (ck_callV 50 rfl [.inl a1, .inl a2, .inl (a3 + (3 * a4))] [.inl a4, .inr (.inr 73)] dX0_look_47 cv_X0_67 sh_72 rfl rfl (Nat.le_of_ble_eq_true rfl) (And.intro hl.2.1 (And.intro hl.2.2.1 (And.intro o1 True.intro))) (ck_mI h10 (fun v3 w2 q4 h5 => (have h13 := h5; have o6 := h13.1; have h12 := h13.2; (ck_iast 51 rfl dX0_look_50 sh_73 (shn_73 hC) o6 q4 (have h15 := h12; have o7 := h15.1; have h14 := h15.2; (ck_iinc 54 rfl [some (.inr (.inr 72)), some (.inl a1), some (.inl a2), some (.inl a3), some (.inl (a4 + 1))] dX0_look_51 rfl (Nat.le_of_ble_eq_true rfl) rfl rfl o7 (ck_goto 26 dX0_look_54 rfl h14)))))))))))))))))))))))))
set_option maxRecDepth 8000 in
theorem r_X0_look_60 {g : ch_G} {A R : Nat} (hC : ck_Cx g A R) {d : Nat} {K : Option ck_V → ck_W → Prop} {w : ck_W} {a4 : Int} (h : ((w 15 5) ≤ a4 → K none w) ∧ (¬ (w 15 5) ≤ a4 → ck_CJ (ch_C g A R) d mX0_wordChance [.inr (.inr 72), .inl a4] w (fun v3 w2 => (0 ≤ a4 ∧ a4 < 12) ∧ (∀ x9, x9 = (ck_up w2 74 a4 v3) 74 a4 → ck_l ((w2 72 6) + x9) ∧ (∀ x14, x14 = (ck_up w2 74 a4 v3) 74 a4 → (x14 ≤ 0 → ck_i (a4 + 1) ∧ (ck_At (ch_C g A R) (d + 1) mX0_look K 60 [some (.inr (.inr 72)), none, none, none, some (.inl (a4 + 1))] [] (ck_up (ck_up w2 74 a4 v3) 72 6 ((w2 72 6) + x9)))) ∧ (¬ x14 ≤ 0 → ((w2 72 7) = (-1) → ck_i (a4 + 1) ∧ (ck_At (ch_C g A R) (d + 1) mX0_look K 60 [some (.inr (.inr 72)), none, none, none, some (.inl (a4 + 1))] [] (ck_up (ck_up (ck_up w2 74 a4 v3) 72 6 ((w2 72 6) + x9)) 72 7 a4))) ∧ (¬ (w2 72 7) = (-1) → ∀ x21, x21 = (ck_up w2 74 a4 v3) 74 a4 → (0 ≤ (w2 72 7) ∧ (w2 72 7) < 12) ∧ (∀ x27, x27 = (ck_up w2 74 a4 v3) 74 (w2 72 7) → (x21 ≤ x27 → ck_i (a4 + 1) ∧ (ck_At (ch_C g A R) (d + 1) mX0_look K 60 [some (.inr (.inr 72)), none, none, none, some (.inl (a4 + 1))] [] (ck_up (ck_up w2 74 a4 v3) 72 6 ((w2 72 6) + x9)))) ∧ (¬ x21 ≤ x27 → ck_i (a4 + 1) ∧ (ck_At (ch_C g A R) (d + 1) mX0_look K 60 [some (.inr (.inr 72)), none, none, none, some (.inl (a4 + 1))] [] (ck_up (ck_up (ck_up w2 74 a4 v3) 72 6 ((w2 72 6) + x9)) 72 7 a4))))))))))) : ck_At (ch_C g A R) (d + 1) mX0_look K 60 [some (.inr (.inr 72)), none, none, none, some (.inl a4)] [] w :=
  ck_in (fun hl => (ck_iload 62 rfl dX0_look_60 rfl (ck_aload_n 63 rfl 0 dX0_look_62 rfl rfl (ck_getr 66 rfl dX0_look_63 fl_X0_42 sh_72 rfl (ck_geti 69 rfl 5 dX0_look_66 fl_X0_70 sh_15 rfl rfl _ rfl (fun (q1 : ck_i (w 15 5)) => (ck_icmp_ge 72 rfl 153 dX0_look_69 rfl hl.2.1 q1 (fun c38 => (ck_vret dX0_look_153 rfl (h.1 c38))) (fun c39 => (ck_aload_n 73 rfl 0 dX0_look_72 rfl rfl (ck_getr 76 rfl dX0_look_73 fl_X0_15 sh_72 rfl (ck_iload 78 rfl dX0_look_76 rfl (ck_aload_n 79 rfl 0 dX0_look_78 rfl rfl (ck_iload 81 rfl dX0_look_79 rfl (ck_callV 84 rfl [.inl a4] [.inl a4, .inr (.inr 74)] dX0_look_81 cv_X0_75 sh_72 rfl rfl (Nat.le_of_ble_eq_true rfl) (And.intro hl.2.1 True.intro) (ck_mJ (h.2 c39) (fun v3 w2 q4 h5 => (have h41 := h5; have o6 := h41.1; have h40 := h41.2; (ck_last 85 rfl dX0_look_84 sh_74 (shn_74 hC) o6 q4 (ck_aload_n 86 rfl 0 dX0_look_85 rfl rfl (ck_dup 87 rfl dX0_look_86 rfl (ck_getl 90 rfl 6 dX0_look_87 fl_X0_57 sh_72 rfl rfl _ rfl (fun (q7 : ck_l (w2 72 6)) => (ck_aload_n 91 rfl 0 dX0_look_90 rfl rfl (ck_getr 94 rfl dX0_look_91 fl_X0_15 sh_72 rfl (ck_iload 96 rfl dX0_look_94 rfl (ck_lald 97 rfl dX0_look_96 sh_74 (shn_74 hC) o6 _ rfl (fun (q8 : ck_l ((ck_up w2 74 a4 v3) 74 a4)) => ck_nml (fun x9 e10 => (have q11 : ck_l x9 := (by rw [e10]; exact q8); (ck_ladd 98 rfl dX0_look_97 (have h43 := (h40 x9 e10); have o12 := h43.1; have h42 := h43.2; (ck_putl 101 rfl 6 dX0_look_98 fp_X0_57 sh_72 rfl rfl o12 (ck_aload_n 102 rfl 0 dX0_look_101 rfl rfl (ck_getr 105 rfl dX0_look_102 fl_X0_15 sh_72 rfl (ck_iload 107 rfl dX0_look_105 rfl (ck_lald 108 rfl dX0_look_107 sh_74 (shn_74 hC) o6 _ rfl (fun (q13 : ck_l ((ck_up w2 74 a4 v3) 74 a4)) => ck_nml (fun x14 e15 => (have q16 : ck_l x14 := (by rw [e15]; exact q13); (ck_lconst 109 rfl 0 dX0_look_108 rfl (ck_lcmp 110 rfl dX0_look_109 q16 (show ck_l 0 by decide) (have h44 := (h42 x14 e15); (ck_if_le 113 rfl 147 dX0_look_110 rfl ck_cmp_i (fun q => have c36 : x14 ≤ 0 := (ck_cmp_le.mp q); (have h46 := (h44.1 c36); have o17 := h46.1; have h45 := h46.2; (ck_iinc 150 rfl [some (.inr (.inr 72)), none, none, none, some (.inl (a4 + 1))] dX0_look_147 rfl (Nat.le_of_ble_eq_true rfl) rfl rfl o17 (ck_goto 60 dX0_look_150 rfl h45)))) (fun q => have c37 : ¬ x14 ≤ 0 := (fun r => q (ck_cmp_le.mpr r)); (ck_aload_n 114 rfl 0 dX0_look_113 rfl rfl (ck_geti 117 rfl 7 dX0_look_114 fl_X0_19 sh_72 rfl rfl _ rfl (fun (q18 : ck_i (w2 72 7)) => (ck_iconst 118 rfl dX0_look_117 rfl (have h47 := (h44.2 c37); (ck_icmp_eq 121 rfl 141 dX0_look_118 rfl q18 (show ck_i (-1) by decide) (fun c34 => (ck_aload_n 142 rfl 0 dX0_look_141 rfl rfl (ck_iload 144 rfl dX0_look_142 rfl (ck_puti 147 rfl 7 dX0_look_144 fp_X0_19 sh_72 rfl rfl hl.2.1 (have h49 := (h47.1 c34); have o19 := h49.1; have h48 := h49.2; (ck_iinc 150 rfl [some (.inr (.inr 72)), none, none, none, some (.inl (a4 + 1))] dX0_look_147 rfl (Nat.le_of_ble_eq_true rfl) rfl rfl o19 (ck_goto 60 dX0_look_150 rfl h48))))))) (fun c35 => (ck_aload_n 122 rfl 0 dX0_look_121 rfl rfl (ck_getr 125 rfl dX0_look_122 fl_X0_15 sh_72 rfl (ck_iload 127 rfl dX0_look_125 rfl (ck_lald 128 rfl dX0_look_127 sh_74 (shn_74 hC) o6 _ rfl (fun (q20 : ck_l ((ck_up w2 74 a4 v3) 74 a4)) => ck_nml (fun x21 e22 => (have q23 : ck_l x21 := (by rw [e22]; exact q20); (ck_aload_n 129 rfl 0 dX0_look_128 rfl rfl (ck_getr 132 rfl dX0_look_129 fl_X0_15 sh_72 rfl (ck_aload_n 133 rfl 0 dX0_look_132 rfl rfl (ck_geti 136 rfl 7 dX0_look_133 fl_X0_19 sh_72 rfl rfl _ rfl (fun (q24 : ck_i (w2 72 7)) => (have h51 := ((h47.2 c35) x21 e22); have o25 := h51.1; have h50 := h51.2; (ck_lald 137 rfl dX0_look_136 sh_74 (shn_74 hC) o25 _ rfl (fun (q26 : ck_l ((ck_up w2 74 a4 v3) 74 (w2 72 7))) => ck_nml (fun x27 e28 => (have q29 : ck_l x27 := (by rw [e28]; exact q26); (ck_lcmp 138 rfl dX0_look_137 q23 q29 (have h52 := (h50 x27 e28); (ck_if_le 141 rfl 147 dX0_look_138 rfl ck_cmp_i (fun q => have c32 : x21 ≤ x27 := (ck_cmp_le.mp q); (have h54 := (h52.1 c32); have o30 := h54.1; have h53 := h54.2; (ck_iinc 150 rfl [some (.inr (.inr 72)), none, none, none, some (.inl (a4 + 1))] dX0_look_147 rfl (Nat.le_of_ble_eq_true rfl) rfl rfl o30 (ck_goto 60 dX0_look_150 rfl h53)))) (fun q => have c33 : ¬ x21 ≤ x27 := (fun r => q (ck_cmp_le.mpr r)); (ck_aload_n 142 rfl 0 dX0_look_141 rfl rfl (ck_iload 144 rfl dX0_look_142 rfl (ck_puti 147 rfl 7 dX0_look_144 fp_X0_19 sh_72 rfl rfl hl.2.1 (have h56 := (h52.2 c33); have o31 := h56.1; have h55 := h56.2; (ck_iinc 150 rfl [some (.inr (.inr 72)), none, none, none, some (.inl (a4 + 1))] dX0_look_147 rfl (Nat.le_of_ble_eq_true rfl) rfl rfl o31 (ck_goto 60 dX0_look_150 rfl h55))))))))))))))))))))))))))))))))))))))))))))))))))))))))))))))))))))))))))))))
theorem p_X0_look {g : ch_G} {A R : Nat} (hC : ck_Cx g A R) {d : Nat} {K : Option ck_V → ck_W → Prop} {w : ck_W} {a1 a2 a3 : Int} (hH : cv_H A R w) (hT : cs_T w) (hR : cs_Cd w) (hX : cs_X w) (h : ∀ w', cb_LK A R w w' a1 a2 a3 → K none w') : ck_Ex (ch_C g A R) (d + 6) mX0_look [.inr (.inr 72), .inl a1, .inl a2, .inl a3] w K := by
  have c := cs_ar hC
  have n5 := hX.2.2.2.1
  have f0 : ∀ k, k ≠ 72 → (ck_up (ck_up w 72 7 (-1)) 72 6 0) k = w k := fun k a => by rw [ck_up_ne a, ck_up_ne a]
  have f7 : (ck_up (ck_up w 72 7 (-1)) 72 6 0) 72 7 = -1 := by rw [ck_up_nj (by decide), ck_up_eq]
  have f6 : (ck_up (ck_up w 72 7 (-1)) 72 6 0) 72 6 = 0 := by rw [ck_up_eq]
  refine e_X0_look hC (p_X5_mayHavePlace hC (cs_hD hH.1 (f0 3 (by decide))) (fun ok => ⟨_, rfl, fun _ => ⟨fun _ => ?_, fun z => absurd z (by decide)⟩⟩) (fun no => ⟨_, rfl, fun _ => ⟨fun z => absurd rfl z, fun _ => h _ ⟨fun k hk => f0 k (by omega), Or.inl ⟨no, f7⟩⟩⟩⟩))
  generalize (ck_up (ck_up w 72 7 (-1)) 72 6 0) = u0 at *
  -- words
  have lw : ∀ (n k : Nat) (v u : ck_W), w 15 5 - (k : Int) = n → (∀ j, j < 70 ∨ 75 ≤ j → v j = w j) → cb_sp v → (∀ i, 0 ≤ i → i < 3 → (((0 ≤ a1 ∧ a1 < w 10 3) ∧ cb_is A w a2 (a3 + 3 * i)) ∧ v 73 i ≠ -1 ∧ (cv_J A R w → v 73 i = cb_or (fun a b => cv_ij A R w a1 (a2 + a) (a3 + 3 * i + b) (fun _ => 0)) 9)) ∨ (¬ ((0 ≤ a1 ∧ a1 < w 10 3) ∧ cb_is A w a2 (a3 + 3 * i)) ∧ v 73 i = -1)) → (∀ j, j ≠ 72 → j ≠ 74 → u j = v j) → (∀ i, 0 ≤ i → i < (k : Int) → u 74 i = cb_wc v i 3 0 0 0) → u 72 6 = cs_sm (fun i => cb_wc v i 3 0 0 0) k → u 72 7 = cb_bw (fun i => cb_wc v i 3 0 0 0) k → ck_At (ch_C g A R) (d + 6) mX0_look K 60 [some (.inr (.inr 72)), none, none, none, some (.inl (k : Int))] [] u := by
    intro n
    induction n with
    | zero =>
      intro k v u g1 g2 g3 g4 g5 g6 g7 g8
      have u15 : u 15 = w 15 := by rw [g5 15 (by decide) (by decide), g2 15 (by decide)]
      have e73 : u 73 = v 73 := g5 73 (by decide) (by decide)
      have ef : (fun i => cb_wc u i 3 0 0 0) = fun i => cb_wc v i 3 0 0 0 := by
        funext i
        exact cb_wc_fr (fun j a b => g5 j (by omega) (by omega)) e73 i 3 0 0 0
      have ek : (w 15 5).toNat = k := by omega
      refine r_X0_look_60 hC ⟨fun _ => h u ⟨fun j hj => by rw [g5 j (by omega) (by omega)]; exact g2 j hj, Or.inr ⟨ok, ?_, ?_, fun i i0 i1 => ?_, ?_, ?_⟩⟩, fun q => absurd (by rw [u15]; omega) q⟩
      · unfold cb_sp; rw [e73]; exact g3
      · rw [e73]; exact g4
      · rw [congrFun ef i]; exact g6 i i0 (by omega)
      · rw [ef, ek]; exact g7
      · rw [ef, ek]; exact g8
    | succ n ih =>
      intro k v u g1 g2 g3 g4 g5 g6 g7 g8
      have u15 : u 15 = w 15 := by rw [g5 15 (by decide) (by decide), g2 15 (by decide)]
      have e73 : u 73 = v 73 := g5 73 (by decide) (by decide)
      have vX : cs_X v := cs_X_fr hX (fun j a b => g2 j (by omega))
      have uX : cs_X u := cs_X_fr vX (fun j a b => g5 j (by omega) (by omega))
      have uS : cb_sp u := by unfold cb_sp; rw [e73]; exact g3
      have v15 : v 15 = w 15 := g2 15 (by decide)
      have ef : cb_wc u k 3 0 0 0 = cb_wc v k 3 0 0 0 := cb_wc_fr (fun j a b => g5 j (by omega) (by omega)) e73 k 3 0 0 0
      have fb : ∀ i, 0 ≤ i → i < w 15 5 → 0 ≤ cb_wc v i 3 0 0 0 ∧ cb_wc v i 3 0 0 0 ≤ 754934151013713 := fun i i0 i1 => cb_wcb vX g3 (by rw [v15]; exact ⟨i0, i1⟩) 3 0 0 0 (by omega) (by omega) (by omega) (by omega)
      have sb := cs_sm_b (f := fun i => cb_wc v i 3 0 0 0) (B := 754934151013713) k (fun i a b => fb i a (by omega))
      have bk := fb k (by omega) (by omega)
      have bb := cb_bwb (fun i => cb_wc v i 3 0 0 0) k
      refine r_X0_look_60 hC ⟨fun q => absurd q (by rw [u15]; omega), fun _ => p_X0_wordChance hC uX uS (by rw [u15]; omega) ⟨_, rfl, fun _ => ⟨by omega, fun x9 e9 => ?_⟩⟩⟩
      rw [ef] at e9 ⊢
      rw [ck_up_eq] at e9
      rw [e9, g7]
      -- what is laid
      have nx : ∀ (u' : ck_W), (∀ j, j ≠ 72 → j ≠ 74 → u' j = u j) → u' 74 = rm_u (u 74) k (cb_wc v k 3 0 0 0) → u' 72 6 = cs_sm (fun i => cb_wc v i 3 0 0 0) k + cb_wc v k 3 0 0 0 → u' 72 7 = cb_bw (fun i => cb_wc v i 3 0 0 0) (k + 1) → ck_At (ch_C g A R) (d + 6) mX0_look K 60 [some (.inr (.inr 72)), none, none, none, some (.inl ((k : Int) + 1))] [] u' := by
        intro u' m1 m2 m3 m4
        rw [show ((k : Int) + 1) = ((k + 1 : Nat) : Int) by omega]
        refine ih (k + 1) v u' (by omega) g2 g3 g4 (fun j a b => by rw [m1 j a b]; exact g5 j a b) (fun i i0 i1 => ?_) (by rw [cs_sm]; exact m3) m4
        rw [m2]
        by_cases z : i = k
        · rw [z, rm_u_eq]
        · rw [rm_u_ne z]; exact g6 i i0 (by omega)
      have w1 : ∀ s : Int, (∀ j, j ≠ 72 → j ≠ 74 → (ck_up (ck_up u 74 k (cb_wc v k 3 0 0 0)) 72 6 s) j = u j) ∧ (ck_up (ck_up u 74 k (cb_wc v k 3 0 0 0)) 72 6 s) 74 = rm_u (u 74) k (cb_wc v k 3 0 0 0) ∧ (ck_up (ck_up u 74 k (cb_wc v k 3 0 0 0)) 72 6 s) 72 6 = s ∧ (ck_up (ck_up u 74 k (cb_wc v k 3 0 0 0)) 72 6 s) 72 7 = u 72 7 := fun s => ⟨fun j a b => by rw [ck_up_ne a, ck_up_ne b], by rw [ck_up_ne (by decide), ck_up_row], by rw [ck_up_eq], by rw [ck_up_nj (by decide), ck_up_ne (by decide)]⟩
      have w2 : ∀ s : Int, (∀ j, j ≠ 72 → j ≠ 74 → (ck_up (ck_up (ck_up u 74 k (cb_wc v k 3 0 0 0)) 72 6 s) 72 7 k) j = u j) ∧ (ck_up (ck_up (ck_up u 74 k (cb_wc v k 3 0 0 0)) 72 6 s) 72 7 k) 74 = rm_u (u 74) k (cb_wc v k 3 0 0 0) ∧ (ck_up (ck_up (ck_up u 74 k (cb_wc v k 3 0 0 0)) 72 6 s) 72 7 k) 72 6 = s ∧ (ck_up (ck_up (ck_up u 74 k (cb_wc v k 3 0 0 0)) 72 6 s) 72 7 k) 72 7 = k := fun s => ⟨fun j a b => by rw [ck_up_ne a, ck_up_ne a, ck_up_ne b], by rw [ck_up_ne (by decide), ck_up_ne (by decide), ck_up_row], by rw [ck_up_nj (by decide), ck_up_eq], by rw [ck_up_eq]⟩
      refine ⟨by constructor <;> omega, fun x14 e14 => ?_⟩
      rw [ck_up_eq] at e14
      rw [e14]
      have k0 : cb_bw (fun i => cb_wc v i 3 0 0 0) (k + 1) = if cb_wc v k 3 0 0 0 ≤ 0 then cb_bw (fun i => cb_wc v i 3 0 0 0) k else if cb_bw (fun i => cb_wc v i 3 0 0 0) k = -1 then k else if cb_wc v k 3 0 0 0 ≤ cb_wc v (cb_bw (fun i => cb_wc v i 3 0 0 0) k) 3 0 0 0 then cb_bw (fun i => cb_wc v i 3 0 0 0) k else k := rfl
      refine ⟨fun z => ⟨by constructor <;> omega, nx _ (w1 _).1 (w1 _).2.1 (w1 _).2.2.1 (by rw [(w1 _).2.2.2, k0, if_pos z]; exact g8)⟩, fun z => ⟨fun z2 => ⟨by constructor <;> omega, nx _ (w2 _).1 (w2 _).2.1 (w2 _).2.2.1 (by rw [(w2 _).2.2.2, k0, if_neg z, if_pos (by rw [← g8]; exact z2)])⟩, fun z2 x21 e21 => ?_⟩⟩
      rw [ck_up_eq] at e21
      rw [e21]
      have z3 : ¬ cb_bw (fun i => cb_wc v i 3 0 0 0) k = -1 := by rw [← g8]; exact z2
      have bi := bb.resolve_left z3
      refine ⟨by omega, fun x27 e27 => ?_⟩
      rw [g8, ck_up_nj (by omega), g6 _ bi.1 (by omega)] at e27
      rw [e27]
      exact ⟨fun z4 => ⟨by constructor <;> omega, nx _ (w1 _).1 (w1 _).2.1 (w1 _).2.2.1 (by rw [(w1 _).2.2.2, k0, if_neg z, if_neg z3, if_pos z4]; exact g8)⟩, fun z4 => ⟨by constructor <;> omega, nx _ (w2 _).1 (w2 _).2.1 (w2 _).2.2.1 (by rw [(w2 _).2.2.2, k0, if_neg z, if_neg z3, if_neg z4])⟩⟩
  -- shapes
  have ls : ∀ (n : Nat) (a4 : Int) (u : ck_W), 3 - a4 = n → 0 ≤ a4 → (∀ j, j < 70 ∨ 75 ≤ j → u j = w j) → u 72 6 = 0 → u 72 7 = -1 → (∀ i, 0 ≤ i → i < a4 → (-1 ≤ u 73 i ∧ u 73 i < 512) ∧ ((((0 ≤ a1 ∧ a1 < w 10 3) ∧ cb_is A w a2 (a3 + 3 * i)) ∧ u 73 i ≠ -1 ∧ (cv_J A R w → u 73 i = cb_or (fun a b => cv_ij A R w a1 (a2 + a) (a3 + 3 * i + b) (fun _ => 0)) 9)) ∨ (¬ ((0 ≤ a1 ∧ a1 < w 10 3) ∧ cb_is A w a2 (a3 + 3 * i)) ∧ u 73 i = -1))) → ck_At (ch_C g A R) (d + 6) mX0_look K 26 [some (.inr (.inr 72)), some (.inl a1), some (.inl a2), some (.inl a3), some (.inl a4)] [] u := by
    intro n
    induction n with
    | zero =>
      intro a4 u g1 g2 g3 g4 g5 g6
      refine r_X0_look_26 hC ⟨fun _ => ?_, fun q => absurd (by omega) q⟩
      have l := lw (w 15 5).toNat 0 u u (by omega) g3 (fun i a b => (g6 i a (by omega)).1) (fun i a b => (g6 i a (by omega)).2) (fun _ _ _ => rfl) (fun i a b => by omega) g4 g5
      exact l
    | succ n ih =>
      intro a4 u g1 g2 g3 g4 g5 g6
      have uR : cs_Cd u := by unfold cs_Cd; rw [g3 10 (by decide), g3 11 (by decide), g3 12 (by decide)]; exact hR
      have uH : cv_H A R u := by
        unfold cv_H cs_D cs_Y cs_Yc
        rw [g3 3 (by decide), g3 4 (by decide), g3 5 (by decide), g3 62 (by decide)]
        exact hH
      have u10 : u 10 = w 10 := g3 10 (by decide)
      have eis : ∀ p, cb_is A u a2 p ↔ cb_is A w a2 p := fun p => by unfold cb_is cs_has; rw [g3 6 (by decide), g3 61 (by decide)]
      have okk := ok
      have eij : ∀ r z p j, cv_ij A R u r z p j = cv_ij A R w r z p j := fun r z p j => cv_ij_cells (g3 4 (by decide)) (g3 5 (by decide)) (g3 62 (by decide)) (g3 11 (by decide)) (g3 12 (by decide)) r z p j
      refine r_X0_look_26 hC ⟨fun q => absurd q (by omega), fun _ => ⟨by constructor <;> omega, p_X0_shapeAt hC uH (cs_hT hT (g3 6 (by decide))) uR (by constructor <;> omega) (fun rk y v w' f r ex => ⟨_, rfl, fun _ => ⟨by omega, by constructor <;> omega, ih (a4 + 1) _ (by omega) (by omega) (fun j hj => by rw [ck_up_ne (by omega), f j (by omega) (by omega)]; exact g3 j hj) (by rw [ck_up_ne (by decide), f 72 (by decide) (by decide)]; exact g4) (by rw [ck_up_ne (by decide), f 72 (by decide) (by decide)]; exact g5) (fun i i0 i1 => ?_)⟩⟩) (fun no w' f => ⟨_, rfl, fun _ => ⟨by omega, by constructor <;> omega, ih (a4 + 1) _ (by omega) (by omega) (fun j hj => by rw [ck_up_ne (by omega), f j (by omega) (by omega)]; exact g3 j hj) (by rw [ck_up_ne (by decide), f 72 (by decide) (by decide)]; exact g4) (by rw [ck_up_ne (by decide), f 72 (by decide) (by decide)]; exact g5) (fun i i0 i1 => ?_)⟩⟩)⟩⟩
      · by_cases e : i = a4
        · rw [e, ck_up_eq]
          rw [u10] at rk
          refine ⟨by omega, Or.inl ⟨⟨rk, (eis _).mp y⟩, by omega, fun hJ => ?_⟩⟩
          rw [ex (fun r r0 r1 z p j => by rw [eij, eij]; exact hJ r r0 (by rw [u10] at r1; exact r1) z p j)]
          congr 1
          funext a b
          exact eij _ _ _ _
        · rw [ck_up_nj e, f 73 (by decide) (by decide)]; exact g6 i i0 (by omega)
      · by_cases e : i = a4
        · rw [e, ck_up_eq]
          refine ⟨by omega, Or.inr ⟨fun x => no ⟨by rw [u10]; exact x.1, (eis _).mpr x.2⟩, rfl⟩⟩
        · rw [ck_up_nj e, f 73 (by decide) (by decide)]; exact g6 i i0 (by omega)
  exact ls 3 0 u0 (by omega) (by omega) (fun k hk => f0 k (by omega)) f6 f7 (fun i a b => by omega)
/-- chances as they may be behind a look that found a word -/
theorem cb_LKb {A R : Nat} {w w' : ck_W} {r z p : Int} (hX : cs_X w) (h : cb_LK A R w w' r z p) (hw : w' 72 7 ≠ -1) : cs_pl A z p ∧ cs_X w' ∧ cb_sp w' ∧ (0 ≤ w' 72 7 ∧ w' 72 7 < w' 15 5) ∧ 0 < w' 74 (w' 72 7) ∧ (∀ k, 0 ≤ k → k < w' 15 5 → (0 ≤ w' 74 k ∧ w' 74 k ≤ 754934151013713) ∧ w' 74 k ≤ w' 72 6) ∧ (∀ j, 0 ≤ j → j < 3 → w' 18 (w' 72 7 * 3 + j) ≠ -1 → 0 ≤ w' 73 j ∧ w' 73 j < 512) := by
  rcases h.2 with x | ⟨x1, x2, x3, x4, x5, x6⟩
  · exact absurd x.2 hw
  have X' : cs_X w' := cs_X_fr hX (fun k a b => h.1 k (by omega))
  have e15 : w' 15 = w 15 := h.1 15 (by decide)
  have n5 := X'.2.2.2.1
  have fb : ∀ i, 0 ≤ i → i < w' 15 5 → 0 ≤ cb_wc w' i 3 0 0 0 ∧ cb_wc w' i 3 0 0 0 ≤ 754934151013713 := fun i i0 i1 => cb_wcb X' x2 ⟨i0, i1⟩ 3 0 0 0 (by omega) (by omega) (by omega) (by omega)
  have bb := cb_bwb (fun k => cb_wc w' k 3 0 0 0) (w 15 5).toNat
  rw [← x6] at bb
  have bi := bb.resolve_left hw
  rw [← e15] at x4 x5 bi
  have sb := cs_sm_b (f := fun i => cb_wc w' i 3 0 0 0) (B := 754934151013713) (w' 15 5).toNat (fun i a b => fb i a (by omega))
  have b5 : 0 ≤ w' 72 7 ∧ w' 72 7 < w' 15 5 := by omega
  have e7 := x4 _ b5.1 b5.2
  refine ⟨x1, X', x2, b5, by rw [e7]; exact bi.2.2, fun k k0 k1 => ?_, fun j j0 j1 hj => ?_⟩
  · rw [x4 k k0 k1, x5]
    exact ⟨fb k k0 k1, sb.2.2 k k0 (by omega)⟩
  · have ne := cb_wcn (w := w') (o := w' 72 7) 3 0 0 0 (by have := bi.2.2; omega) j j0 (by omega) hj
    have s := x2 j j0 j1
    omega
def cb_od (w : ck_W) (k : Int) : Int := if 0 ≤ k ∧ k < w 15 5 then (if w 74 k = 0 then -1 else cs_th (w 74 k) (w 72 6)) else -1
theorem dX0_wordOdds_0 : decode cX0_wordOdds 0 = .ok (.iload_n 1, 1) := dk_27 (by decide +kernel)
theorem dX0_wordOdds_1 : decode cX0_wordOdds 1 = .ok (.iconst 0, 1) := dk_3 (by decide +kernel)
theorem dX0_wordOdds_2 : decode cX0_wordOdds 2 = .ok (.aload_n 0, 1) := dk_42 (by decide +kernel)
theorem dX0_wordOdds_3 : decode cX0_wordOdds 3 = .ok (.getfield 42, 3) := dk_180 0 42 (by decide +kernel)
theorem dX0_wordOdds_6 : decode cX0_wordOdds 6 = .ok (.getfield 70, 3) := dk_180 0 70 (by decide +kernel)
theorem dX0_wordOdds_9 : decode cX0_wordOdds 9 = .ok (.iconst 1, 1) := dk_4 (by decide +kernel)
theorem dX0_wordOdds_10 : decode cX0_wordOdds 10 = .ok (.isub, 1) := dk_100 (by decide +kernel)
theorem dX0_wordOdds_11 : decode cX0_wordOdds 11 = .ok (.invokestatic 47, 3) := dk_184 0 47 (by decide +kernel)
theorem dX0_wordOdds_14 : decode cX0_wordOdds 14 = .ok (.ifCond .eq 14, 3) := dk_153 0 14 (by decide +kernel)
theorem dX0_wordOdds_17 : decode cX0_wordOdds 17 = .ok (.aload_n 0, 1) := dk_42 (by decide +kernel)
theorem dX0_wordOdds_18 : decode cX0_wordOdds 18 = .ok (.getfield 15, 3) := dk_180 0 15 (by decide +kernel)
theorem dX0_wordOdds_21 : decode cX0_wordOdds 21 = .ok (.iload_n 1, 1) := dk_27 (by decide +kernel)
theorem dX0_wordOdds_22 : decode cX0_wordOdds 22 = .ok (.laload, 1) := dk_47 (by decide +kernel)
theorem dX0_wordOdds_23 : decode cX0_wordOdds 23 = .ok (.lconst 0, 1) := dk_9 (by decide +kernel)
theorem dX0_wordOdds_24 : decode cX0_wordOdds 24 = .ok (.lcmp, 1) := dk_148 (by decide +kernel)
theorem dX0_wordOdds_25 : decode cX0_wordOdds 25 = .ok (.ifCond .ne 5, 3) := dk_154 0 5 (by decide +kernel)
theorem dX0_wordOdds_28 : decode cX0_wordOdds 28 = .ok (.iconst (-1), 1) := dk_2 (by decide +kernel)
theorem dX0_wordOdds_29 : decode cX0_wordOdds 29 = .ok (.ireturn, 1) := dk_172 (by decide +kernel)
theorem dX0_wordOdds_30 : decode cX0_wordOdds 30 = .ok (.aload_n 0, 1) := dk_42 (by decide +kernel)
theorem dX0_wordOdds_31 : decode cX0_wordOdds 31 = .ok (.getfield 15, 3) := dk_180 0 15 (by decide +kernel)
theorem dX0_wordOdds_34 : decode cX0_wordOdds 34 = .ok (.iload_n 1, 1) := dk_27 (by decide +kernel)
theorem dX0_wordOdds_35 : decode cX0_wordOdds 35 = .ok (.laload, 1) := dk_47 (by decide +kernel)
theorem dX0_wordOdds_36 : decode cX0_wordOdds 36 = .ok (.aload_n 0, 1) := dk_42 (by decide +kernel)
theorem dX0_wordOdds_37 : decode cX0_wordOdds 37 = .ok (.getfield 57, 3) := dk_180 0 57 (by decide +kernel)
theorem dX0_wordOdds_40 : decode cX0_wordOdds 40 = .ok (.invokestatic 107, 3) := dk_184 0 107 (by decide +kernel)
theorem dX0_wordOdds_43 : decode cX0_wordOdds 43 = .ok (.ireturn, 1) := dk_172 (by decide +kernel)
set_option maxRecDepth 8000 in
theorem e_X0_wordOdds {g : ch_G} {A R : Nat} (hC : ck_Cx g A R) {d : Nat} {K : Option ck_V → ck_W → Prop} {w : ck_W} {a1 : Int} (h : ck_i ((w 15 5) - 1) ∧ ((0 ≤ a1 ∧ a1 ≤ ((w 15 5) - 1) → (0 ≤ a1 ∧ a1 < 12) ∧ ((¬ (w 74 a1) = 0 → ck_CI (ch_C g A R) d mX2_thousandths [.inr (.inl (w 74 a1)), .inr (.inl (w 72 6))] w (fun v8 w7 => K (some (.inl v8)) w7)) ∧ ((w 74 a1) = 0 → K (some (.inl (-1))) w))) ∧ (¬ (0 ≤ a1 ∧ a1 ≤ ((w 15 5) - 1)) → K (some (.inl (-1))) w))) : ck_Ex (ch_C g A R) (d + 1) mX0_wordOdds [.inr (.inr 72), .inl a1] w K :=
  ck_entry hC.1 [some (.inr (.inr 72)), some (.inl a1)] (by decide) (Nat.le_of_ble_eq_true rfl) rfl (fun q => q) (ck_in (fun hl => (ck_iload_n 1 rfl 1 dX0_wordOdds_0 rfl rfl (ck_iconst 2 rfl dX0_wordOdds_1 rfl (ck_aload_n 3 rfl 0 dX0_wordOdds_2 rfl rfl (ck_getr 6 rfl dX0_wordOdds_3 fl_X0_42 sh_72 rfl (ck_geti 9 rfl 5 dX0_wordOdds_6 fl_X0_70 sh_15 rfl rfl _ rfl (fun (q1 : ck_i (w 15 5)) => (ck_iconst 10 rfl dX0_wordOdds_9 rfl (ck_isub 11 rfl dX0_wordOdds_10 (have h17 := h; have o2 := h17.1; have h16 := h17.2; (have h15 := h16; ck_callSN 14 rfl [.inl a1, .inl 0, .inl ((w 15 5) - 1)] [] dX0_wordOdds_11 cn_X0_47 rfl rfl (Nat.le_of_ble_eq_true rfl) (And.intro hl.2.1 (And.intro (show ck_i 0 by decide) (And.intro o2 True.intro))) (p_X11_within hC (fun c13 _ => (ck_if_eq 17 rfl 28 dX0_wordOdds_14 rfl (by decide) (fun q => absurd q (by decide)) (fun _ => (ck_aload_n 18 rfl 0 dX0_wordOdds_17 rfl rfl (ck_getr 21 rfl dX0_wordOdds_18 fl_X0_15 sh_72 rfl (ck_iload_n 22 rfl 1 dX0_wordOdds_21 rfl rfl (have h19 := (h15.1 c13); have o3 := h19.1; have h18 := h19.2; (ck_lald 23 rfl dX0_wordOdds_22 sh_74 (shn_74 hC) o3 _ rfl (fun (q4 : ck_l (w 74 a1)) => (ck_lconst 24 rfl 0 dX0_wordOdds_23 rfl (ck_lcmp 25 rfl dX0_wordOdds_24 q4 (show ck_l 0 by decide) (ck_if_ne 28 rfl 30 dX0_wordOdds_25 rfl ck_cmp_i (fun q => have c11 : ¬ (w 74 a1) = 0 := (fun r => q (ck_cmp_eq.mpr r)); (ck_aload_n 31 rfl 0 dX0_wordOdds_30 rfl rfl (ck_getr 34 rfl dX0_wordOdds_31 fl_X0_15 sh_72 rfl (ck_iload_n 35 rfl 1 dX0_wordOdds_34 rfl rfl (ck_lald 36 rfl dX0_wordOdds_35 sh_74 (shn_74 hC) o3 _ rfl (fun (q5 : ck_l (w 74 a1)) => (ck_aload_n 37 rfl 0 dX0_wordOdds_36 rfl rfl (ck_getl 40 rfl 6 dX0_wordOdds_37 fl_X0_57 sh_72 rfl rfl _ rfl (fun (q6 : ck_l (w 72 6)) => (ck_callS 43 rfl [.inr (.inl (w 74 a1)), .inr (.inl (w 72 6))] [] dX0_wordOdds_40 cs_X0_107 rfl rfl (Nat.le_of_ble_eq_true rfl) (And.intro q5 (And.intro q6 True.intro)) (ck_mI (h18.1 c11) (fun v8 w7 q9 h10 => (ck_iret dX0_wordOdds_43 rfl q9 h10))))))))))))) (fun q => have c12 : (w 74 a1) = 0 := (ck_cmp_eq.mp q); (ck_iconst 29 rfl dX0_wordOdds_28 rfl (ck_iret dX0_wordOdds_29 rfl (show ck_i (-1) by decide) (h18.2 c12)))))))))))))))) (fun c14 _ => (ck_if_eq 17 rfl 28 dX0_wordOdds_14 rfl (by decide) (fun _ => (ck_iconst 29 rfl dX0_wordOdds_28 rfl (ck_iret dX0_wordOdds_29 rfl (show ck_i (-1) by decide) (h15.2 c14)))) (fun q => absurd q (by decide)))))))))))))))))
theorem p_X0_wordOdds {g : ch_G} {A R : Nat} (hC : ck_Cx g A R) {d : Nat} {K : Option ck_V → ck_W → Prop} {w : ck_W} {a1 : Int} (hn : 0 ≤ w 15 5 ∧ w 15 5 ≤ 12) (hb : ∀ k, 0 ≤ k → k < w 15 5 → (0 ≤ w 74 k ∧ w 74 k ≤ 754934151013713) ∧ w 74 k ≤ w 72 6) (h : K (some (.inl (cb_od w a1))) w) : ck_Ex (ch_C g A R) (d + 1) mX0_wordOdds [.inr (.inr 72), .inl a1] w K := by
  unfold cb_od at h
  refine e_X0_wordOdds hC ⟨by constructor <;> omega, fun q => ⟨by omega, fun z => ?_, fun z => ?_⟩, fun q => by rw [if_neg (by omega)] at h; exact h⟩
  · have b := hb a1 (by omega) (by omega)
    rw [if_pos (by omega), if_neg z] at h
    exact p_X2_thousandths hC (by omega) b.2 ⟨_, rfl, fun _ => h⟩
  · rw [if_pos (by omega), if_pos z] at h; exact h
theorem dX11_joined_0 : decode cX11_joined 0 = .ok (.aload_n 0, 1) := dk_42 (by decide +kernel)
theorem dX11_joined_1 : decode cX11_joined 1 = .ok (.getfield 30, 3) := dk_180 0 30 (by decide +kernel)
theorem dX11_joined_4 : decode cX11_joined 4 = .ok (.iload_n 2, 1) := dk_28 (by decide +kernel)
theorem dX11_joined_5 : decode cX11_joined 5 = .ok (.invokevirtual 265, 3) := dk_182 1 9 (by decide +kernel)
theorem dX11_joined_8 : decode cX11_joined 8 = .ok (.aload_n 0, 1) := dk_42 (by decide +kernel)
theorem dX11_joined_9 : decode cX11_joined 9 = .ok (.getfield 72, 3) := dk_180 0 72 (by decide +kernel)
theorem dX11_joined_12 : decode cX11_joined 12 = .ok (.iload_n 1, 1) := dk_27 (by decide +kernel)
theorem dX11_joined_13 : decode cX11_joined 13 = .ok (.iload_n 2, 1) := dk_28 (by decide +kernel)
theorem dX11_joined_14 : decode cX11_joined 14 = .ok (.iload_n 3, 1) := dk_29 (by decide +kernel)
theorem dX11_joined_15 : decode cX11_joined 15 = .ok (.invokevirtual 283, 3) := dk_182 1 27 (by decide +kernel)
theorem dX11_joined_18 : decode cX11_joined 18 = .ok (.aload_n 0, 1) := dk_42 (by decide +kernel)
theorem dX11_joined_19 : decode cX11_joined 19 = .ok (.getfield 72, 3) := dk_180 0 72 (by decide +kernel)
theorem dX11_joined_22 : decode cX11_joined 22 = .ok (.getfield 287, 3) := dk_180 1 31 (by decide +kernel)
theorem dX11_joined_25 : decode cX11_joined 25 = .ok (.iconst (-1), 1) := dk_2 (by decide +kernel)
theorem dX11_joined_26 : decode cX11_joined 26 = .ok (.if_icmp .ne 5, 3) := dk_160 0 5 (by decide +kernel)
theorem dX11_joined_29 : decode cX11_joined 29 = .ok (.iconst (-1), 1) := dk_2 (by decide +kernel)
theorem dX11_joined_30 : decode cX11_joined 30 = .ok (.ireturn, 1) := dk_172 (by decide +kernel)
theorem dX11_joined_31 : decode cX11_joined 31 = .ok (.iload 4, 2) := dk_21 (by decide +kernel)
theorem dX11_joined_33 : decode cX11_joined 33 = .ok (.ifCond .ne 11, 3) := dk_154 0 11 (by decide +kernel)
theorem dX11_joined_36 : decode cX11_joined 36 = .ok (.aload_n 0, 1) := dk_42 (by decide +kernel)
theorem dX11_joined_37 : decode cX11_joined 37 = .ok (.getfield 72, 3) := dk_180 0 72 (by decide +kernel)
theorem dX11_joined_40 : decode cX11_joined 40 = .ok (.getfield 287, 3) := dk_180 1 31 (by decide +kernel)
theorem dX11_joined_43 : decode cX11_joined 43 = .ok (.ireturn, 1) := dk_172 (by decide +kernel)
theorem dX11_joined_44 : decode cX11_joined 44 = .ok (.aload_n 0, 1) := dk_42 (by decide +kernel)
theorem dX11_joined_45 : decode cX11_joined 45 = .ok (.getfield 72, 3) := dk_180 0 72 (by decide +kernel)
theorem dX11_joined_48 : decode cX11_joined 48 = .ok (.iload 4, 2) := dk_21 (by decide +kernel)
theorem dX11_joined_50 : decode cX11_joined 50 = .ok (.iconst 1, 1) := dk_4 (by decide +kernel)
theorem dX11_joined_51 : decode cX11_joined 51 = .ok (.if_icmp .ne 13, 3) := dk_160 0 13 (by decide +kernel)
theorem dX11_joined_54 : decode cX11_joined 54 = .ok (.aload_n 0, 1) := dk_42 (by decide +kernel)
theorem dX11_joined_55 : decode cX11_joined 55 = .ok (.getfield 72, 3) := dk_180 0 72 (by decide +kernel)
theorem dX11_joined_58 : decode cX11_joined 58 = .ok (.getfield 287, 3) := dk_180 1 31 (by decide +kernel)
theorem dX11_joined_61 : decode cX11_joined 61 = .ok (.goto 8, 3) := dk_167 0 8 (by decide +kernel)
theorem dX11_joined_64 : decode cX11_joined 64 = .ok (.iload 4, 2) := dk_21 (by decide +kernel)
theorem dX11_joined_66 : decode cX11_joined 66 = .ok (.bipush 100, 2) := dk_16 100 (by decide +kernel)
theorem dX11_joined_68 : decode cX11_joined 68 = .ok (.isub, 1) := dk_100 (by decide +kernel)
theorem dX11_joined_69 : decode cX11_joined 69 = .ok (.invokevirtual 290, 3) := dk_182 1 34 (by decide +kernel)
theorem dX11_joined_72 : decode cX11_joined 72 = .ok (.ireturn, 1) := dk_172 (by decide +kernel)
set_option maxRecDepth 8000 in
theorem e_X11_joined {g : ch_G} {A R : Nat} (hC : ck_Cx g A R) {d : Nat} {K : Option ck_V → ck_W → Prop} {w : ck_W} {a1 a2 a3 a4 : Int} (h : ck_CN (ch_C g A R) d mX10_settleRows [.inr (.inr 51), .inl a2] w (fun w1 => ck_CN (ch_C g A R) d mX0_look [.inr (.inr 72), .inl a1, .inl a2, .inl a3] w1 (fun w2 => (¬ (w2 72 7) = (-1) → (¬ a4 = 0 → (¬ a4 = 1 → ck_CI (ch_C g A R) d mX0_wordOdds [.inr (.inr 72), .inl (ck_wr (a4 - 100))] w2 (fun v5 w4 => K (some (.inl v5)) w4)) ∧ (a4 = 1 → ck_CI (ch_C g A R) d mX0_wordOdds [.inr (.inr 72), .inl (w2 72 7)] w2 (fun v10 w9 => K (some (.inl v10)) w9))) ∧ (a4 = 0 → K (some (.inl (w2 72 7))) w2)) ∧ ((w2 72 7) = (-1) → K (some (.inl (-1))) w2)))) : ck_Ex (ch_C g A R) (d + 1) mX11_joined [.inr (.inr 0), .inl a1, .inl a2, .inl a3, .inl a4] w K :=
  ck_entry hC.1 [some (.inr (.inr 0)), some (.inl a1), some (.inl a2), some (.inl a3), some (.inl a4)] (by decide) (Nat.le_of_ble_eq_true rfl) rfl (fun q => q) (ck_in (fun hl => (ck_aload_n 1 rfl 0 dX11_joined_0 rfl rfl (ck_getr 4 rfl dX11_joined_1 fl_X11_30 sh_0 rfl (ck_iload_n 5 rfl 2 dX11_joined_4 rfl rfl (ck_callV 8 rfl [.inl a2] [] dX11_joined_5 cv_X11_265 sh_51 rfl rfl (Nat.le_of_ble_eq_true rfl) (And.intro hl.2.2.1 True.intro) (ck_mN h (fun w1 h21 => (ck_aload_n 9 rfl 0 dX11_joined_8 rfl rfl (ck_getr 12 rfl dX11_joined_9 fl_X11_72 sh_0 rfl (ck_iload_n 13 rfl 1 dX11_joined_12 rfl rfl (ck_iload_n 14 rfl 2 dX11_joined_13 rfl rfl (ck_iload_n 15 rfl 3 dX11_joined_14 rfl rfl (ck_callV 18 rfl [.inl a1, .inl a2, .inl a3] [] dX11_joined_15 cv_X11_283 sh_72 rfl rfl (Nat.le_of_ble_eq_true rfl) (And.intro hl.2.1 (And.intro hl.2.2.1 (And.intro hl.2.2.2.1 True.intro))) (ck_mN h21 (fun w2 h20 => (ck_aload_n 19 rfl 0 dX11_joined_18 rfl rfl (ck_getr 22 rfl dX11_joined_19 fl_X11_72 sh_0 rfl (ck_geti 25 rfl 7 dX11_joined_22 fl_X11_287 sh_72 rfl rfl _ rfl (fun (q3 : ck_i (w2 72 7)) => (ck_iconst 26 rfl dX11_joined_25 rfl (ck_icmp_ne 29 rfl 31 dX11_joined_26 rfl q3 (show ck_i (-1) by decide) (fun c18 => (ck_iload 33 rfl dX11_joined_31 rfl (have h22 := (h20.1 c18); (ck_if_ne 36 rfl 44 dX11_joined_33 rfl hl.2.2.2.2.1 (fun c16 => (ck_aload_n 45 rfl 0 dX11_joined_44 rfl rfl (ck_getr 48 rfl dX11_joined_45 fl_X11_72 sh_0 rfl (ck_iload 50 rfl dX11_joined_48 rfl (ck_iconst 51 rfl dX11_joined_50 rfl (have h23 := (h22.1 c16); (ck_icmp_ne 54 rfl 64 dX11_joined_51 rfl hl.2.2.2.2.1 (show ck_i 1 by decide) (fun c13 => (ck_iload 66 rfl dX11_joined_64 rfl (ck_bipush 68 rfl dX11_joined_66 rfl (ck_isub 69 rfl dX11_joined_68 (ck_wrp (ck_callV 72 rfl [.inl (ck_wr (a4 - 100))] [] dX11_joined_69 cv_X11_290 sh_72 rfl rfl (Nat.le_of_ble_eq_true rfl) (And.intro (ck_rng _) True.intro) (ck_mI (h23.1 c13) (fun v5 w4 q6 h7 => (ck_iret dX11_joined_72 rfl q6 h7))))))))) (fun c14 => (ck_aload_n 55 rfl 0 dX11_joined_54 rfl rfl (ck_getr 58 rfl dX11_joined_55 fl_X11_72 sh_0 rfl (ck_geti 61 rfl 7 dX11_joined_58 fl_X11_287 sh_72 rfl rfl _ rfl (fun (q8 : ck_i (w2 72 7)) => (ck_goto 69 dX11_joined_61 rfl (ck_callV 72 rfl [.inl (w2 72 7)] [] dX11_joined_69 cv_X11_290 sh_72 rfl rfl (Nat.le_of_ble_eq_true rfl) (And.intro q8 True.intro) (ck_mI (h23.2 c14) (fun v10 w9 q11 h12 => (ck_iret dX11_joined_72 rfl q11 h12))))))))))))))))) (fun c17 => (ck_aload_n 37 rfl 0 dX11_joined_36 rfl rfl (ck_getr 40 rfl dX11_joined_37 fl_X11_72 sh_0 rfl (ck_geti 43 rfl 7 dX11_joined_40 fl_X11_287 sh_72 rfl rfl _ rfl (fun (q15 : ck_i (w2 72 7)) => (ck_iret dX11_joined_43 rfl q15 (h22.2 c17))))))))))) (fun c19 => (ck_iconst 30 rfl dX11_joined_29 rfl (ck_iret dX11_joined_30 rfl (show ck_i (-1) by decide) (h20.2 c19))))))))))))))))))))))))))
def cb_ja (w : ck_W) (what : Int) : Int := if w 72 7 = -1 then -1 else if what = 0 then w 72 7 else if what = 1 then cb_od w (w 72 7) else cb_od w (what - 100)
theorem C_joined {g : ch_G} {A R : Nat} (hC : ck_Cx g A R) {d : Nat} {K : Option ck_V → ck_W → Prop} {w : ck_W} {a1 a2 a3 a4 : Int} (hI : cw_IV A R w) (hY : cs_Yc A R w) (hR : cs_Cd w) (hX : cs_X w) (hi : ck_i a4) (h : ∀ w1 w', cs_q w w1 → cw_IV A R w1 → (0 ≤ a2 ∧ a2 ≤ 3 → ∀ z, a2 ≤ z → z ≤ a2 + 2 → w1 59 z ≠ 0) → cb_LK A R w1 w' a1 a2 a3 → cs_Q w w' → cw_IV A R w' → K (some (.inl (cb_ja w' a4))) w') : ck_Ex (ch_C g A R) (d + 7) mX11_joined [.inr (.inr 0), .inl a1, .inl a2, .inl a3, .inl a4] w K := by
  refine e_X11_joined hC (S_X10_settleRows hC hI (fun w1 k1 k2 k3 k4 => ⟨rfl, ?_⟩))
  have q1 := cs_Q_q k1
  have X1 : cs_X w1 := cs_X_fr hX (fun k a b => k1 k (by omega))
  refine p_X0_look hC (cv_Hof k2 (cs_Yc_fr hY q1)) k2.1.2.1 (cs_Cd_fr hR q1) X1 (fun w' L => ⟨rfl, ?_⟩)
  have k := h w1 w' k1 k2 k4 L (cs_Q_tr q1 (fun k hk => L.1 k (by omega))) (cw_IV_fr hC k2 (fun k hk => L.1 k (by omega)))
  unfold cb_ja at k
  refine ⟨fun z => ?_, fun z => by rw [if_pos z] at k; exact k⟩
  have b := cb_LKb X1 L z
  rw [if_neg z] at k
  have n5 := b.2.1.2.2.2.1
  refine ⟨fun z0 => ⟨fun z1 => ?_, fun z1 => ?_⟩, fun z0 => by rw [if_pos z0] at k; exact k⟩
  · rw [if_neg z0, if_neg z1] at k
    have ha := ck_wr_add (a := a4) (b := -100) hi (by omega)
    rw [show a4 + -100 = a4 - 100 by omega] at ha
    refine p_X0_wordOdds hC n5 b.2.2.2.2.2.1 ⟨_, rfl, fun _ => ?_⟩
    have e : cb_od w' (ck_wr (a4 - 100)) = cb_od w' (a4 - 100) := by
      rcases ha with e | e | e
      · rw [e]
      · unfold cb_od; rw [if_neg (by omega), if_neg (by omega)]
      · unfold cb_od; rw [if_neg (by omega), if_neg (by omega)]
    rw [e]
    exact k
  · rw [if_neg z0, if_pos z1] at k
    exact p_X0_wordOdds hC n5 b.2.2.2.2.2.1 ⟨_, rfl, fun _ => k⟩
/-- each letter of the word is the one that ink shows -/
def cb_by (w : ck_W) : Prop := ∀ i, 0 ≤ i → i < 3 → w 18 (w 72 7 * 3 + i) ≠ -1 → (cs_bl w (w 73 i) (w 15 2).toNat 0 (-1, 0)).1 = w 18 (w 72 7 * 3 + i)
theorem dX0_isByInkAlone_0 : decode cX0_isByInkAlone 0 = .ok (.iconst 0, 1) := dk_3 (by decide +kernel)
theorem dX0_isByInkAlone_1 : decode cX0_isByInkAlone 1 = .ok (.istore_n 1, 1) := dk_60 (by decide +kernel)
theorem dX0_isByInkAlone_2 : decode cX0_isByInkAlone 2 = .ok (.iload_n 1, 1) := dk_27 (by decide +kernel)
theorem dX0_isByInkAlone_3 : decode cX0_isByInkAlone 3 = .ok (.iconst 3, 1) := dk_6 (by decide +kernel)
theorem dX0_isByInkAlone_4 : decode cX0_isByInkAlone 4 = .ok (.if_icmp .ge 46, 3) := dk_162 0 46 (by decide +kernel)
theorem dX0_isByInkAlone_7 : decode cX0_isByInkAlone 7 = .ok (.aload_n 0, 1) := dk_42 (by decide +kernel)
theorem dX0_isByInkAlone_8 : decode cX0_isByInkAlone 8 = .ok (.getfield 42, 3) := dk_180 0 42 (by decide +kernel)
theorem dX0_isByInkAlone_11 : decode cX0_isByInkAlone 11 = .ok (.aload_n 0, 1) := dk_42 (by decide +kernel)
theorem dX0_isByInkAlone_12 : decode cX0_isByInkAlone 12 = .ok (.getfield 19, 3) := dk_180 0 19 (by decide +kernel)
theorem dX0_isByInkAlone_15 : decode cX0_isByInkAlone 15 = .ok (.iload_n 1, 1) := dk_27 (by decide +kernel)
theorem dX0_isByInkAlone_16 : decode cX0_isByInkAlone 16 = .ok (.invokevirtual 79, 3) := dk_182 0 79 (by decide +kernel)
theorem dX0_isByInkAlone_19 : decode cX0_isByInkAlone 19 = .ok (.istore_n 2, 1) := dk_61 (by decide +kernel)
theorem dX0_isByInkAlone_20 : decode cX0_isByInkAlone 20 = .ok (.iload_n 2, 1) := dk_28 (by decide +kernel)
theorem dX0_isByInkAlone_21 : decode cX0_isByInkAlone 21 = .ok (.iconst (-1), 1) := dk_2 (by decide +kernel)
theorem dX0_isByInkAlone_22 : decode cX0_isByInkAlone 22 = .ok (.if_icmp .eq 22, 3) := dk_159 0 22 (by decide +kernel)
theorem dX0_isByInkAlone_25 : decode cX0_isByInkAlone 25 = .ok (.aload_n 0, 1) := dk_42 (by decide +kernel)
theorem dX0_isByInkAlone_26 : decode cX0_isByInkAlone 26 = .ok (.getfield 42, 3) := dk_180 0 42 (by decide +kernel)
theorem dX0_isByInkAlone_29 : decode cX0_isByInkAlone 29 = .ok (.aload_n 0, 1) := dk_42 (by decide +kernel)
theorem dX0_isByInkAlone_30 : decode cX0_isByInkAlone 30 = .ok (.getfield 9, 3) := dk_180 0 9 (by decide +kernel)
theorem dX0_isByInkAlone_33 : decode cX0_isByInkAlone 33 = .ok (.iload_n 1, 1) := dk_27 (by decide +kernel)
theorem dX0_isByInkAlone_34 : decode cX0_isByInkAlone 34 = .ok (.iaload, 1) := dk_46 (by decide +kernel)
theorem dX0_isByInkAlone_35 : decode cX0_isByInkAlone 35 = .ok (.invokevirtual 128, 3) := dk_182 0 128 (by decide +kernel)
theorem dX0_isByInkAlone_38 : decode cX0_isByInkAlone 38 = .ok (.iload_n 2, 1) := dk_28 (by decide +kernel)
theorem dX0_isByInkAlone_39 : decode cX0_isByInkAlone 39 = .ok (.if_icmp .eq 5, 3) := dk_159 0 5 (by decide +kernel)
theorem dX0_isByInkAlone_42 : decode cX0_isByInkAlone 42 = .ok (.iconst 0, 1) := dk_3 (by decide +kernel)
theorem dX0_isByInkAlone_43 : decode cX0_isByInkAlone 43 = .ok (.ireturn, 1) := dk_172 (by decide +kernel)
theorem dX0_isByInkAlone_44 : decode cX0_isByInkAlone 44 = .ok (.iinc 1 1, 3) := dk_132 1 (by decide +kernel)
theorem dX0_isByInkAlone_47 : decode cX0_isByInkAlone 47 = .ok (.goto (-45), 3) := dk_167 255 211 (by decide +kernel)
theorem dX0_isByInkAlone_50 : decode cX0_isByInkAlone 50 = .ok (.iconst 1, 1) := dk_4 (by decide +kernel)
theorem dX0_isByInkAlone_51 : decode cX0_isByInkAlone 51 = .ok (.ireturn, 1) := dk_172 (by decide +kernel)
set_option maxRecDepth 8000 in
theorem e_X0_isByInkAlone {g : ch_G} {A R : Nat} (hC : ck_Cx g A R) {d : Nat} {K : Option ck_V → ck_W → Prop} {w : ck_W} (h : ck_At (ch_C g A R) (d + 1) mX0_isByInkAlone K 2 [some (.inr (.inr 72)), some (.inl 0), none] [] w) : ck_Ex (ch_C g A R) (d + 1) mX0_isByInkAlone [.inr (.inr 72)] w K :=
  ck_entry hC.1 [some (.inr (.inr 72)), none, none] (by decide) (Nat.le_of_ble_eq_true rfl) rfl (fun q => q) (ck_in (fun hl => (ck_iconst 1 rfl dX0_isByInkAlone_0 rfl (ck_istore_n 2 rfl 1 [some (.inr (.inr 72)), some (.inl 0), none] dX0_isByInkAlone_1 rfl (Nat.le_of_ble_eq_true rfl) rfl rfl (show ck_i 0 by decide) h))))
set_option maxRecDepth 8000 in
theorem r_X0_isByInkAlone_2 {g : ch_G} {A R : Nat} (hC : ck_Cx g A R) {d : Nat} {K : Option ck_V → ck_W → Prop} {w : ck_W} {a1 : Int} (h : (3 ≤ a1 → K (some (.inl 1)) w) ∧ (¬ 3 ≤ a1 → ck_CI (ch_C g A R) d mX2_letterOf [.inr (.inr 15), .inl (w 72 7), .inl a1] w (fun v3 w2 => (v3 = (-1) → ck_i (a1 + 1) ∧ (ck_At (ch_C g A R) (d + 1) mX0_isByInkAlone K 2 [some (.inr (.inr 72)), some (.inl (a1 + 1)), none] [] w2)) ∧ (¬ v3 = (-1) → (0 ≤ a1 ∧ a1 < 3) ∧ (ck_CI (ch_C g A R) d mX2_letterByInk [.inr (.inr 15), .inl (w2 73 a1)] w2 (fun v10 w9 => (v10 = v3 → ck_i (a1 + 1) ∧ (ck_At (ch_C g A R) (d + 1) mX0_isByInkAlone K 2 [some (.inr (.inr 72)), some (.inl (a1 + 1)), none] [] w9)) ∧ (¬ v10 = v3 → K (some (.inl 0)) w9))))))) : ck_At (ch_C g A R) (d + 1) mX0_isByInkAlone K 2 [some (.inr (.inr 72)), some (.inl a1), none] [] w :=
  ck_in (fun hl => (ck_iload_n 3 rfl 1 dX0_isByInkAlone_2 rfl rfl (ck_iconst 4 rfl dX0_isByInkAlone_3 rfl (ck_icmp_ge 7 rfl 50 dX0_isByInkAlone_4 rfl hl.2.1 (show ck_i 3 by decide) (fun c18 => (ck_iconst 51 rfl dX0_isByInkAlone_50 rfl (ck_zret dX0_isByInkAlone_51 rfl (by decide) (h.1 c18)))) (fun c19 => (ck_aload_n 8 rfl 0 dX0_isByInkAlone_7 rfl rfl (ck_getr 11 rfl dX0_isByInkAlone_8 fl_X0_42 sh_72 rfl (ck_aload_n 12 rfl 0 dX0_isByInkAlone_11 rfl rfl (ck_geti 15 rfl 7 dX0_isByInkAlone_12 fl_X0_19 sh_72 rfl rfl _ rfl (fun (q1 : ck_i (w 72 7)) => (ck_iload_n 16 rfl 1 dX0_isByInkAlone_15 rfl rfl (ck_callV 19 rfl [.inl (w 72 7), .inl a1] [] dX0_isByInkAlone_16 cv_X0_79 sh_15 rfl rfl (Nat.le_of_ble_eq_true rfl) (And.intro q1 (And.intro hl.2.1 True.intro)) (ck_mI (h.2 c19) (fun v3 w2 q4 h5 => (ck_istore_n 20 rfl 2 [some (.inr (.inr 72)), some (.inl a1), some (.inl v3)] dX0_isByInkAlone_19 rfl (Nat.le_of_ble_eq_true rfl) rfl rfl q4 (ck_iload_n 21 rfl 2 dX0_isByInkAlone_20 rfl rfl (ck_iconst 22 rfl dX0_isByInkAlone_21 rfl (ck_icmp_eq 25 rfl 44 dX0_isByInkAlone_22 rfl q4 (show ck_i (-1) by decide) (fun c16 => (have h21 := (h5.1 c16); have o6 := h21.1; have h20 := h21.2; (ck_iinc 47 rfl [some (.inr (.inr 72)), some (.inl (a1 + 1)), some (.inl v3)] dX0_isByInkAlone_44 rfl (Nat.le_of_ble_eq_true rfl) rfl rfl o6 (ck_goto 2 dX0_isByInkAlone_47 rfl (ck_drop [some (.inr (.inr 72)), some (.inl (a1 + 1)), none] (And.intro rfl (And.intro rfl True.intro)) h20))))) (fun c17 => (ck_aload_n 26 rfl 0 dX0_isByInkAlone_25 rfl rfl (ck_getr 29 rfl dX0_isByInkAlone_26 fl_X0_42 sh_72 rfl (ck_aload_n 30 rfl 0 dX0_isByInkAlone_29 rfl rfl (ck_getr 33 rfl dX0_isByInkAlone_30 fl_X0_9 sh_72 rfl (ck_iload_n 34 rfl 1 dX0_isByInkAlone_33 rfl rfl (have h23 := (h5.2 c17); have o7 := h23.1; have h22 := h23.2; (ck_iald 35 rfl dX0_isByInkAlone_34 sh_73 (shn_73 hC) o7 _ rfl (fun (q8 : ck_i (w2 73 a1)) => (ck_callV 38 rfl [.inl (w2 73 a1)] [] dX0_isByInkAlone_35 cv_X0_128 sh_15 rfl rfl (Nat.le_of_ble_eq_true rfl) (And.intro q8 True.intro) (ck_mI h22 (fun v10 w9 q11 h12 => (ck_iload_n 39 rfl 2 dX0_isByInkAlone_38 rfl rfl (ck_icmp_eq 42 rfl 44 dX0_isByInkAlone_39 rfl q11 q4 (fun c14 => (have h25 := (h12.1 c14); have o13 := h25.1; have h24 := h25.2; (ck_iinc 47 rfl [some (.inr (.inr 72)), some (.inl (a1 + 1)), some (.inl v3)] dX0_isByInkAlone_44 rfl (Nat.le_of_ble_eq_true rfl) rfl rfl o13 (ck_goto 2 dX0_isByInkAlone_47 rfl (ck_drop [some (.inr (.inr 72)), some (.inl (a1 + 1)), none] (And.intro rfl (And.intro rfl True.intro)) h24))))) (fun c15 => (ck_iconst 43 rfl dX0_isByInkAlone_42 rfl (ck_zret dX0_isByInkAlone_43 rfl (by decide) (h12.2 c15))))))))))))))))))))))))))))))))))))
theorem p_X0_isByInkAlone {g : ch_G} {A R : Nat} (hC : ck_Cx g A R) {d : Nat} {K : Option ck_V → ck_W → Prop} {w : ck_W} (hX : cs_X w) (hw : 0 ≤ w 72 7 ∧ w 72 7 < w 15 5) (hs : ∀ j, 0 ≤ j → j < 3 → w 18 (w 72 7 * 3 + j) ≠ -1 → 0 ≤ w 73 j ∧ w 73 j < 512) (h1 : cb_by w → K (some (.inl 1)) w) (h0 : ¬ cb_by w → K (some (.inl 0)) w) : ck_Ex (ch_C g A R) (d + 5) mX0_isByInkAlone [.inr (.inr 72)] w K := by
  have lp : ∀ (n : Nat) (a1 : Int), 3 - a1 = n → 0 ≤ a1 → (∀ i, 0 ≤ i → i < a1 → w 18 (w 72 7 * 3 + i) ≠ -1 → (cs_bl w (w 73 i) (w 15 2).toNat 0 (-1, 0)).1 = w 18 (w 72 7 * 3 + i)) → ck_At (ch_C g A R) (d + 5) mX0_isByInkAlone K 2 [some (.inr (.inr 72)), some (.inl a1), none] [] w := by
    intro n
    induction n with
    | zero =>
      intro a1 g1 g2 g3
      exact r_X0_isByInkAlone_2 hC ⟨fun _ => h1 (fun i a b => g3 i a (by omega)), fun q => absurd (by omega) q⟩
    | succ n ih =>
      intro a1 g1 g2 g3
      refine r_X0_isByInkAlone_2 hC ⟨fun q => absurd q (by omega), fun _ => p_X2_letterOf hC hX.2.2.2.1 hw (by omega) ⟨_, rfl, fun _ => ⟨fun z => ⟨by constructor <;> omega, ih (a1 + 1) (by omega) (by omega) (fun i i0 i1 hi => ?_)⟩, fun z => ⟨by omega, S_X2_letterByInk hC hX.1 hX.2.1 hX.2.2.1 (hs a1 g2 (by omega) z) ⟨_, rfl, fun _ => ⟨fun y => ⟨by constructor <;> omega, ih (a1 + 1) (by omega) (by omega) (fun i i0 i1 hi => ?_)⟩, fun y => h0 (fun x => y (x a1 g2 (by omega) z))⟩⟩⟩⟩⟩⟩
      · by_cases e : i = a1
        · rw [e] at hi; exact absurd z hi
        · exact g3 i i0 (by omega) hi
      · by_cases e : i = a1
        · rw [e]; exact y
        · exact g3 i i0 (by omega) hi
  exact e_X0_isByInkAlone hC (lp 3 0 (by omega) (by omega) (fun i a b => by omega))
/-- how many columns a word has -/
def cb_co (w : ck_W) : Nat → Int → Int → Int
  | 0, _, s => s
  | n + 1, i, s => cb_co w n (i + 1) (if w 18 (w 72 7 * 3 + i) = -1 then s + 0 else s + 3)
theorem cb_cob (w : ck_W) : ∀ (n : Nat) (i s : Int), 0 ≤ s → 0 ≤ cb_co w n i s ∧ cb_co w n i s ≤ s + 3 * n
  | 0, i, s, h => by rw [cb_co]; omega
  | n + 1, i, s, h => by
    rw [cb_co]
    have := cb_cob w n (i + 1) (if w 18 (w 72 7 * 3 + i) = -1 then s + 0 else s + 3) (by split <;> omega)
    split at this <;> rename_i e
    · rw [if_pos e]; omega
    · rw [if_neg e]; omega
def cb_un (w : ck_W) (r z p : Int) : Prop := ∀ i j, 0 ≤ i → i < 3 → 0 ≤ j → j < cb_co w 3 0 0 → cs_bo w r (z + i) (p + j) 1 = 0
theorem dX0_isUnlearnt_0 : decode cX0_isUnlearnt 0 = .ok (.iconst 0, 1) := dk_3 (by decide +kernel)
theorem dX0_isUnlearnt_1 : decode cX0_isUnlearnt 1 = .ok (.istore 4, 2) := dk_54 (by decide +kernel)
theorem dX0_isUnlearnt_3 : decode cX0_isUnlearnt 3 = .ok (.iconst 0, 1) := dk_3 (by decide +kernel)
theorem dX0_isUnlearnt_4 : decode cX0_isUnlearnt 4 = .ok (.istore 5, 2) := dk_54 (by decide +kernel)
theorem dX0_isUnlearnt_6 : decode cX0_isUnlearnt 6 = .ok (.iload 5, 2) := dk_21 (by decide +kernel)
theorem dX0_isUnlearnt_8 : decode cX0_isUnlearnt 8 = .ok (.iconst 3, 1) := dk_6 (by decide +kernel)
theorem dX0_isUnlearnt_9 : decode cX0_isUnlearnt 9 = .ok (.if_icmp .ge 36, 3) := dk_162 0 36 (by decide +kernel)
theorem dX0_isUnlearnt_12 : decode cX0_isUnlearnt 12 = .ok (.iload 4, 2) := dk_21 (by decide +kernel)
theorem dX0_isUnlearnt_14 : decode cX0_isUnlearnt 14 = .ok (.aload_n 0, 1) := dk_42 (by decide +kernel)
theorem dX0_isUnlearnt_15 : decode cX0_isUnlearnt 15 = .ok (.getfield 42, 3) := dk_180 0 42 (by decide +kernel)
theorem dX0_isUnlearnt_18 : decode cX0_isUnlearnt 18 = .ok (.aload_n 0, 1) := dk_42 (by decide +kernel)
theorem dX0_isUnlearnt_19 : decode cX0_isUnlearnt 19 = .ok (.getfield 19, 3) := dk_180 0 19 (by decide +kernel)
theorem dX0_isUnlearnt_22 : decode cX0_isUnlearnt 22 = .ok (.iload 5, 2) := dk_21 (by decide +kernel)
theorem dX0_isUnlearnt_24 : decode cX0_isUnlearnt 24 = .ok (.invokevirtual 79, 3) := dk_182 0 79 (by decide +kernel)
theorem dX0_isUnlearnt_27 : decode cX0_isUnlearnt 27 = .ok (.iconst (-1), 1) := dk_2 (by decide +kernel)
theorem dX0_isUnlearnt_28 : decode cX0_isUnlearnt 28 = .ok (.if_icmp .ne 7, 3) := dk_160 0 7 (by decide +kernel)
theorem dX0_isUnlearnt_31 : decode cX0_isUnlearnt 31 = .ok (.iconst 0, 1) := dk_3 (by decide +kernel)
theorem dX0_isUnlearnt_32 : decode cX0_isUnlearnt 32 = .ok (.goto 4, 3) := dk_167 0 4 (by decide +kernel)
theorem dX0_isUnlearnt_35 : decode cX0_isUnlearnt 35 = .ok (.iconst 3, 1) := dk_6 (by decide +kernel)
theorem dX0_isUnlearnt_36 : decode cX0_isUnlearnt 36 = .ok (.iadd, 1) := dk_96 (by decide +kernel)
theorem dX0_isUnlearnt_37 : decode cX0_isUnlearnt 37 = .ok (.istore 4, 2) := dk_54 (by decide +kernel)
theorem dX0_isUnlearnt_39 : decode cX0_isUnlearnt 39 = .ok (.iinc 5 1, 3) := dk_132 1 (by decide +kernel)
theorem dX0_isUnlearnt_42 : decode cX0_isUnlearnt 42 = .ok (.goto (-36), 3) := dk_167 255 220 (by decide +kernel)
theorem dX0_isUnlearnt_45 : decode cX0_isUnlearnt 45 = .ok (.iconst 0, 1) := dk_3 (by decide +kernel)
theorem dX0_isUnlearnt_46 : decode cX0_isUnlearnt 46 = .ok (.istore 5, 2) := dk_54 (by decide +kernel)
theorem dX0_isUnlearnt_48 : decode cX0_isUnlearnt 48 = .ok (.iload 5, 2) := dk_21 (by decide +kernel)
theorem dX0_isUnlearnt_50 : decode cX0_isUnlearnt 50 = .ok (.iconst 3, 1) := dk_6 (by decide +kernel)
theorem dX0_isUnlearnt_51 : decode cX0_isUnlearnt 51 = .ok (.if_icmp .ge 47, 3) := dk_162 0 47 (by decide +kernel)
theorem dX0_isUnlearnt_54 : decode cX0_isUnlearnt 54 = .ok (.iconst 0, 1) := dk_3 (by decide +kernel)
theorem dX0_isUnlearnt_55 : decode cX0_isUnlearnt 55 = .ok (.istore 6, 2) := dk_54 (by decide +kernel)
theorem dX0_isUnlearnt_57 : decode cX0_isUnlearnt 57 = .ok (.iload 6, 2) := dk_21 (by decide +kernel)
theorem dX0_isUnlearnt_59 : decode cX0_isUnlearnt 59 = .ok (.iload 4, 2) := dk_21 (by decide +kernel)
theorem dX0_isUnlearnt_61 : decode cX0_isUnlearnt 61 = .ok (.if_icmp .ge 31, 3) := dk_162 0 31 (by decide +kernel)
theorem dX0_isUnlearnt_64 : decode cX0_isUnlearnt 64 = .ok (.aload_n 0, 1) := dk_42 (by decide +kernel)
theorem dX0_isUnlearnt_65 : decode cX0_isUnlearnt 65 = .ok (.getfield 37, 3) := dk_180 0 37 (by decide +kernel)
theorem dX0_isUnlearnt_68 : decode cX0_isUnlearnt 68 = .ok (.iload_n 1, 1) := dk_27 (by decide +kernel)
theorem dX0_isUnlearnt_69 : decode cX0_isUnlearnt 69 = .ok (.iload_n 2, 1) := dk_28 (by decide +kernel)
theorem dX0_isUnlearnt_70 : decode cX0_isUnlearnt 70 = .ok (.iload 5, 2) := dk_21 (by decide +kernel)
theorem dX0_isUnlearnt_72 : decode cX0_isUnlearnt 72 = .ok (.iadd, 1) := dk_96 (by decide +kernel)
theorem dX0_isUnlearnt_73 : decode cX0_isUnlearnt 73 = .ok (.iload_n 3, 1) := dk_29 (by decide +kernel)
theorem dX0_isUnlearnt_74 : decode cX0_isUnlearnt 74 = .ok (.iload 6, 2) := dk_21 (by decide +kernel)
theorem dX0_isUnlearnt_76 : decode cX0_isUnlearnt 76 = .ok (.iadd, 1) := dk_96 (by decide +kernel)
theorem dX0_isUnlearnt_77 : decode cX0_isUnlearnt 77 = .ok (.iconst 1, 1) := dk_4 (by decide +kernel)
theorem dX0_isUnlearnt_78 : decode cX0_isUnlearnt 78 = .ok (.invokevirtual 131, 3) := dk_182 0 131 (by decide +kernel)
theorem dX0_isUnlearnt_81 : decode cX0_isUnlearnt 81 = .ok (.ifCond .eq 5, 3) := dk_153 0 5 (by decide +kernel)
theorem dX0_isUnlearnt_84 : decode cX0_isUnlearnt 84 = .ok (.iconst 0, 1) := dk_3 (by decide +kernel)
theorem dX0_isUnlearnt_85 : decode cX0_isUnlearnt 85 = .ok (.ireturn, 1) := dk_172 (by decide +kernel)
theorem dX0_isUnlearnt_86 : decode cX0_isUnlearnt 86 = .ok (.iinc 6 1, 3) := dk_132 1 (by decide +kernel)
theorem dX0_isUnlearnt_89 : decode cX0_isUnlearnt 89 = .ok (.goto (-32), 3) := dk_167 255 224 (by decide +kernel)
theorem dX0_isUnlearnt_92 : decode cX0_isUnlearnt 92 = .ok (.iinc 5 1, 3) := dk_132 1 (by decide +kernel)
theorem dX0_isUnlearnt_95 : decode cX0_isUnlearnt 95 = .ok (.goto (-47), 3) := dk_167 255 209 (by decide +kernel)
theorem dX0_isUnlearnt_98 : decode cX0_isUnlearnt 98 = .ok (.iconst 1, 1) := dk_4 (by decide +kernel)
theorem dX0_isUnlearnt_99 : decode cX0_isUnlearnt 99 = .ok (.ireturn, 1) := dk_172 (by decide +kernel)
set_option maxRecDepth 8000 in
theorem e_X0_isUnlearnt {g : ch_G} {A R : Nat} (hC : ck_Cx g A R) {d : Nat} {K : Option ck_V → ck_W → Prop} {w : ck_W} {a1 a2 a3 : Int} (h : ck_At (ch_C g A R) (d + 1) mX0_isUnlearnt K 6 [some (.inr (.inr 72)), some (.inl a1), some (.inl a2), some (.inl a3), some (.inl 0), some (.inl 0), none] [] w) : ck_Ex (ch_C g A R) (d + 1) mX0_isUnlearnt [.inr (.inr 72), .inl a1, .inl a2, .inl a3] w K :=
  ck_entry hC.1 [some (.inr (.inr 72)), some (.inl a1), some (.inl a2), some (.inl a3), none, none, none] (by decide) (Nat.le_of_ble_eq_true rfl) rfl (fun q => q) (ck_in (fun hl => (ck_iconst 1 rfl dX0_isUnlearnt_0 rfl (ck_istore 3 rfl [some (.inr (.inr 72)), some (.inl a1), some (.inl a2), some (.inl a3), some (.inl 0), none, none] dX0_isUnlearnt_1 (Nat.le_of_ble_eq_true rfl) rfl rfl (show ck_i 0 by decide) (ck_iconst 4 rfl dX0_isUnlearnt_3 rfl (ck_istore 6 rfl [some (.inr (.inr 72)), some (.inl a1), some (.inl a2), some (.inl a3), some (.inl 0), some (.inl 0), none] dX0_isUnlearnt_4 (Nat.le_of_ble_eq_true rfl) rfl rfl (show ck_i 0 by decide) h))))))
set_option maxRecDepth 8000 in
theorem r_X0_isUnlearnt_6 {g : ch_G} {A R : Nat} (hC : ck_Cx g A R) {d : Nat} {K : Option ck_V → ck_W → Prop} {w : ck_W} {a1 a2 a3 a4 a5 : Int} (h : (3 ≤ a5 → ck_At (ch_C g A R) (d + 1) mX0_isUnlearnt K 48 [some (.inr (.inr 72)), some (.inl a1), some (.inl a2), some (.inl a3), some (.inl a4), some (.inl 0), none] [] w) ∧ (¬ 3 ≤ a5 → ck_CI (ch_C g A R) d mX2_letterOf [.inr (.inr 15), .inl (w 72 7), .inl a5] w (fun v3 w2 => (¬ v3 = (-1) → ck_i (a4 + 3) ∧ (ck_i (a5 + 1) ∧ (ck_At (ch_C g A R) (d + 1) mX0_isUnlearnt K 6 [some (.inr (.inr 72)), some (.inl a1), some (.inl a2), some (.inl a3), some (.inl (a4 + 3)), some (.inl (a5 + 1)), none] [] w2))) ∧ (v3 = (-1) → ck_i (a4 + 0) ∧ (ck_i (a5 + 1) ∧ (ck_At (ch_C g A R) (d + 1) mX0_isUnlearnt K 6 [some (.inr (.inr 72)), some (.inl a1), some (.inl a2), some (.inl a3), some (.inl (a4 + 0)), some (.inl (a5 + 1)), none] [] w2)))))) : ck_At (ch_C g A R) (d + 1) mX0_isUnlearnt K 6 [some (.inr (.inr 72)), some (.inl a1), some (.inl a2), some (.inl a3), some (.inl a4), some (.inl a5), none] [] w :=
  ck_in (fun hl => (ck_iload 8 rfl dX0_isUnlearnt_6 rfl (ck_iconst 9 rfl dX0_isUnlearnt_8 rfl (ck_icmp_ge 12 rfl 45 dX0_isUnlearnt_9 rfl hl.2.2.2.2.2.1 (show ck_i 3 by decide) (fun c12 => (ck_iconst 46 rfl dX0_isUnlearnt_45 rfl (ck_istore 48 rfl [some (.inr (.inr 72)), some (.inl a1), some (.inl a2), some (.inl a3), some (.inl a4), some (.inl 0), none] dX0_isUnlearnt_46 (Nat.le_of_ble_eq_true rfl) rfl rfl (show ck_i 0 by decide) (h.1 c12)))) (fun c13 => (ck_iload 14 rfl dX0_isUnlearnt_12 rfl (ck_aload_n 15 rfl 0 dX0_isUnlearnt_14 rfl rfl (ck_getr 18 rfl dX0_isUnlearnt_15 fl_X0_42 sh_72 rfl (ck_aload_n 19 rfl 0 dX0_isUnlearnt_18 rfl rfl (ck_geti 22 rfl 7 dX0_isUnlearnt_19 fl_X0_19 sh_72 rfl rfl _ rfl (fun (q1 : ck_i (w 72 7)) => (ck_iload 24 rfl dX0_isUnlearnt_22 rfl (ck_callV 27 rfl [.inl (w 72 7), .inl a5] [.inl a4] dX0_isUnlearnt_24 cv_X0_79 sh_15 rfl rfl (Nat.le_of_ble_eq_true rfl) (And.intro q1 (And.intro hl.2.2.2.2.2.1 True.intro)) (ck_mI (h.2 c13) (fun v3 w2 q4 h5 => (ck_iconst 28 rfl dX0_isUnlearnt_27 rfl (ck_icmp_ne 31 rfl 35 dX0_isUnlearnt_28 rfl q4 (show ck_i (-1) by decide) (fun c10 => (ck_iconst 36 rfl dX0_isUnlearnt_35 rfl (ck_iadd 37 rfl dX0_isUnlearnt_36 (have h15 := (h5.1 c10); have o6 := h15.1; have h14 := h15.2; (ck_istore 39 rfl [some (.inr (.inr 72)), some (.inl a1), some (.inl a2), some (.inl a3), some (.inl (a4 + 3)), some (.inl a5), none] dX0_isUnlearnt_37 (Nat.le_of_ble_eq_true rfl) rfl rfl o6 (have h17 := h14; have o7 := h17.1; have h16 := h17.2; (ck_iinc 42 rfl [some (.inr (.inr 72)), some (.inl a1), some (.inl a2), some (.inl a3), some (.inl (a4 + 3)), some (.inl (a5 + 1)), none] dX0_isUnlearnt_39 rfl (Nat.le_of_ble_eq_true rfl) rfl rfl o7 (ck_goto 6 dX0_isUnlearnt_42 rfl h16)))))))) (fun c11 => (ck_iconst 32 rfl dX0_isUnlearnt_31 rfl (ck_goto 36 dX0_isUnlearnt_32 rfl (ck_iadd 37 rfl dX0_isUnlearnt_36 (have h19 := (h5.2 c11); have o8 := h19.1; have h18 := h19.2; (ck_istore 39 rfl [some (.inr (.inr 72)), some (.inl a1), some (.inl a2), some (.inl a3), some (.inl (a4 + 0)), some (.inl a5), none] dX0_isUnlearnt_37 (Nat.le_of_ble_eq_true rfl) rfl rfl o8 (have h21 := h18; have o9 := h21.1; have h20 := h21.2; (ck_iinc 42 rfl [some (.inr (.inr 72)), some (.inl a1), some (.inl a2), some (.inl a3), some (.inl (a4 + 0)), some (.inl (a5 + 1)), none] dX0_isUnlearnt_39 rfl (Nat.le_of_ble_eq_true rfl) rfl rfl o9 (ck_goto 6 dX0_isUnlearnt_42 rfl h20))))))))))))))))))))))))))
set_option maxRecDepth 8000 in
theorem r_X0_isUnlearnt_48 {g : ch_G} {A R : Nat} (hC : ck_Cx g A R) {d : Nat} {K : Option ck_V → ck_W → Prop} {w : ck_W} {a1 a2 a3 a4 a5 : Int} (h : (3 ≤ a5 → K (some (.inl 1)) w) ∧ (¬ 3 ≤ a5 → ck_At (ch_C g A R) (d + 1) mX0_isUnlearnt K 57 [some (.inr (.inr 72)), some (.inl a1), some (.inl a2), some (.inl a3), some (.inl a4), some (.inl a5), some (.inl 0)] [] w)) : ck_At (ch_C g A R) (d + 1) mX0_isUnlearnt K 48 [some (.inr (.inr 72)), some (.inl a1), some (.inl a2), some (.inl a3), some (.inl a4), some (.inl a5), none] [] w :=
  ck_in (fun hl => (ck_iload 50 rfl dX0_isUnlearnt_48 rfl (ck_iconst 51 rfl dX0_isUnlearnt_50 rfl (ck_icmp_ge 54 rfl 98 dX0_isUnlearnt_51 rfl hl.2.2.2.2.2.1 (show ck_i 3 by decide) (fun c1 => (ck_iconst 99 rfl dX0_isUnlearnt_98 rfl (ck_zret dX0_isUnlearnt_99 rfl (by decide) (h.1 c1)))) (fun c2 => (ck_iconst 55 rfl dX0_isUnlearnt_54 rfl (ck_istore 57 rfl [some (.inr (.inr 72)), some (.inl a1), some (.inl a2), some (.inl a3), some (.inl a4), some (.inl a5), some (.inl 0)] dX0_isUnlearnt_55 (Nat.le_of_ble_eq_true rfl) rfl rfl (show ck_i 0 by decide) (h.2 c2))))))))
set_option maxRecDepth 8000 in
theorem r_X0_isUnlearnt_57 {g : ch_G} {A R : Nat} (hC : ck_Cx g A R) {d : Nat} {K : Option ck_V → ck_W → Prop} {w : ck_W} {a1 a2 a3 a4 a5 a6 : Int} (h : (a4 ≤ a6 → ck_i (a5 + 1) ∧ (ck_At (ch_C g A R) (d + 1) mX0_isUnlearnt K 48 [some (.inr (.inr 72)), some (.inl a1), some (.inl a2), some (.inl a3), some (.inl a4), some (.inl (a5 + 1)), none] [] w)) ∧ (¬ a4 ≤ a6 → ck_i (a2 + a5) ∧ (ck_i (a3 + a6) ∧ (ck_CI (ch_C g A R) d mX4_bitIsOf [.inr (.inr 10), .inl a1, .inl (a2 + a5), .inl (a3 + a6), .inl 1] w (fun v5 w4 => (v5 = 0 → ck_i (a6 + 1) ∧ (ck_At (ch_C g A R) (d + 1) mX0_isUnlearnt K 57 [some (.inr (.inr 72)), some (.inl a1), some (.inl a2), some (.inl a3), some (.inl a4), some (.inl a5), some (.inl (a6 + 1))] [] w4)) ∧ (¬ v5 = 0 → K (some (.inl 0)) w4)))))) : ck_At (ch_C g A R) (d + 1) mX0_isUnlearnt K 57 [some (.inr (.inr 72)), some (.inl a1), some (.inl a2), some (.inl a3), some (.inl a4), some (.inl a5), some (.inl a6)] [] w :=
  ck_in (fun hl => (ck_iload 59 rfl dX0_isUnlearnt_57 rfl (ck_iload 61 rfl dX0_isUnlearnt_59 rfl (ck_icmp_ge 64 rfl 92 dX0_isUnlearnt_61 rfl hl.2.2.2.2.2.2.1 hl.2.2.2.2.1 (fun c11 => (have h14 := (h.1 c11); have o1 := h14.1; have h13 := h14.2; (ck_iinc 95 rfl [some (.inr (.inr 72)), some (.inl a1), some (.inl a2), some (.inl a3), some (.inl a4), some (.inl (a5 + 1)), some (.inl a6)] dX0_isUnlearnt_92 rfl (Nat.le_of_ble_eq_true rfl) rfl rfl o1 (ck_goto 48 dX0_isUnlearnt_95 rfl (ck_drop [some (.inr (.inr 72)), some (.inl a1), some (.inl a2), some (.inl a3), some (.inl a4), some (.inl (a5 + 1)), none] (And.intro rfl (And.intro rfl (And.intro rfl (And.intro rfl (And.intro rfl (And.intro rfl True.intro)))))) h13))))) (fun c12 => (ck_aload_n 65 rfl 0 dX0_isUnlearnt_64 rfl rfl (ck_getr 68 rfl dX0_isUnlearnt_65 fl_X0_37 sh_72 rfl (ck_iload_n 69 rfl 1 dX0_isUnlearnt_68 rfl rfl (ck_iload_n 70 rfl 2 dX0_isUnlearnt_69 rfl rfl (ck_iload 72 rfl dX0_isUnlearnt_70 rfl (ck_iadd 73 rfl dX0_isUnlearnt_72 (ck_iload_n 74 rfl 3 dX0_isUnlearnt_73 rfl rfl (ck_iload 76 rfl dX0_isUnlearnt_74 rfl (ck_iadd 77 rfl dX0_isUnlearnt_76 (ck_iconst 78 rfl dX0_isUnlearnt_77 rfl (have h16 := (h.2 c12); have o2 := h16.1; have h15 := h16.2; (have h18 := h15; have o3 := h18.1; have h17 := h18.2; (ck_callV 81 rfl [.inl a1, .inl (a2 + a5), .inl (a3 + a6), .inl 1] [] dX0_isUnlearnt_78 cv_X0_131 sh_10 rfl rfl (Nat.le_of_ble_eq_true rfl) (And.intro hl.2.1 (And.intro o2 (And.intro o3 (And.intro (show ck_i 1 by decide) True.intro)))) (ck_mI h17 (fun v5 w4 q6 h7 => (ck_if_eq 84 rfl 86 dX0_isUnlearnt_81 rfl q6 (fun c9 => (have h20 := (h7.1 c9); have o8 := h20.1; have h19 := h20.2; (ck_iinc 89 rfl [some (.inr (.inr 72)), some (.inl a1), some (.inl a2), some (.inl a3), some (.inl a4), some (.inl a5), some (.inl (a6 + 1))] dX0_isUnlearnt_86 rfl (Nat.le_of_ble_eq_true rfl) rfl rfl o8 (ck_goto 57 dX0_isUnlearnt_89 rfl h19)))) (fun c10 => (ck_iconst 85 rfl dX0_isUnlearnt_84 rfl (ck_zret dX0_isUnlearnt_85 rfl (by decide) (h7.2 c10)))))))))))))))))))))))))
theorem p_X0_isUnlearnt {g : ch_G} {A R : Nat} (hC : ck_Cx g A R) {d : Nat} {K : Option ck_V → ck_W → Prop} {w : ck_W} {a1 a2 a3 : Int} (hX : cs_X w) (hc : 0 ≤ w 10 3 ∧ w 10 3 ≤ 4) (hw : 0 ≤ w 72 7 ∧ w 72 7 < w 15 5) (h2 : 0 ≤ a2 ∧ a2 ≤ 5) (h3 : 0 ≤ a3 ∧ a3 < 100) (h1 : cb_un w a1 a2 a3 → K (some (.inl 1)) w) (h0 : ¬ cb_un w a1 a2 a3 → K (some (.inl 0)) w) : ck_Ex (ch_C g A R) (d + 3) mX0_isUnlearnt [.inr (.inr 72), .inl a1, .inl a2, .inl a3] w K := by
  have cb := cb_cob w 3 0 0 (by omega)
  have ro : ∀ (n : Nat) (a5 : Int), 3 - a5 = n → 0 ≤ a5 → (∀ i j, 0 ≤ i → i < a5 → 0 ≤ j → j < cb_co w 3 0 0 → cs_bo w a1 (a2 + i) (a3 + j) 1 = 0) → ck_At (ch_C g A R) (d + 3) mX0_isUnlearnt K 48 [some (.inr (.inr 72)), some (.inl a1), some (.inl a2), some (.inl a3), some (.inl (cb_co w 3 0 0)), some (.inl a5), none] [] w := by
    intro n
    induction n with
    | zero =>
      intro a5 g1 g2 g3
      exact r_X0_isUnlearnt_48 hC ⟨fun _ => h1 (fun i j a b c e => g3 i j a (by omega) c e), fun q => absurd (by omega) q⟩
    | succ n ih =>
      intro a5 g1 g2 g3
      have co : ∀ (m : Nat) (a6 : Int), cb_co w 3 0 0 - a6 = m → 0 ≤ a6 → (∀ j, 0 ≤ j → j < a6 → cs_bo w a1 (a2 + a5) (a3 + j) 1 = 0) → ck_At (ch_C g A R) (d + 3) mX0_isUnlearnt K 57 [some (.inr (.inr 72)), some (.inl a1), some (.inl a2), some (.inl a3), some (.inl (cb_co w 3 0 0)), some (.inl a5), some (.inl a6)] [] w := by
        intro m
        induction m with
        | zero =>
          intro a6 e1 e2 e3
          refine r_X0_isUnlearnt_57 hC ⟨fun _ => ⟨by constructor <;> omega, ih (a5 + 1) (by omega) (by omega) (fun i j i0 i1 j0 j1 => ?_)⟩, fun q => absurd (by omega) q⟩
          by_cases e : i = a5
          · rw [e]; exact e3 j j0 (by omega)
          · exact g3 i j i0 (by omega) j0 j1
        | succ m ih2 =>
          intro a6 e1 e2 e3
          refine r_X0_isUnlearnt_57 hC ⟨fun q => absurd q (by omega), fun _ => ⟨by constructor <;> omega, by constructor <;> omega, p_X4_bitIsOf hC hc ⟨_, rfl, fun _ => ⟨fun z => ⟨by constructor <;> omega, ih2 (a6 + 1) (by omega) (by omega) (fun j j0 j1 => ?_)⟩, fun z => h0 (fun x => z (x a5 a6 (by omega) (by omega) (by omega) (by omega)))⟩⟩⟩⟩
          by_cases e : j = a6
          · rw [e]; exact z
          · exact e3 j j0 (by omega)
      exact r_X0_isUnlearnt_48 hC ⟨fun q => absurd q (by omega), fun _ => co (cb_co w 3 0 0).toNat 0 (by omega) (by omega) (fun j a b => by omega)⟩
  have cl : ∀ (n : Nat) (a4 a5 : Int), 3 - a5 = n → 0 ≤ a5 → (0 ≤ a4 ∧ a4 ≤ 3 * a5) → cb_co w n a5 a4 = cb_co w 3 0 0 → ck_At (ch_C g A R) (d + 3) mX0_isUnlearnt K 6 [some (.inr (.inr 72)), some (.inl a1), some (.inl a2), some (.inl a3), some (.inl a4), some (.inl a5), none] [] w := by
    intro n
    induction n with
    | zero =>
      intro a4 a5 g1 g2 g3 g4
      rw [cb_co] at g4
      rw [g4]
      exact r_X0_isUnlearnt_6 hC ⟨fun _ => ro 3 0 (by omega) (by omega) (fun i j a b => by omega), fun q => absurd (by omega) q⟩
    | succ n ih =>
      intro a4 a5 g1 g2 g3 g4
      rw [cb_co] at g4
      exact r_X0_isUnlearnt_6 hC ⟨fun q => absurd q (by omega), fun _ => p_X2_letterOf hC hX.2.2.2.1 hw (by omega) ⟨_, rfl, fun _ => ⟨fun z => ⟨by constructor <;> omega, by constructor <;> omega, ih (a4 + 3) (a5 + 1) (by omega) (by omega) (by omega) (by rw [if_neg z] at g4; exact g4)⟩, fun z => ⟨by constructor <;> omega, by constructor <;> omega, ih (a4 + 0) (a5 + 1) (by omega) (by omega) (by omega) (by rw [if_pos z] at g4; exact g4)⟩⟩⟩⟩
  exact e_X0_isUnlearnt hC (cl 3 0 0 (by omega) (by omega) (by omega) rfl)
/-- the word that a reader counts for -/
noncomputable def cb_vo (w : ck_W) (r z p P : Int) : Int := @ite _ (w 72 7 ≠ -1 ∧ P ≤ cb_od w (w 72 7) ∧ cb_by w ∧ cb_un w r z p) (Classical.propDecidable _) (w 72 7) (-1)
theorem dX0_vote_0 : decode cX0_vote 0 = .ok (.aload_n 0, 1) := dk_42 (by decide +kernel)
theorem dX0_vote_1 : decode cX0_vote 1 = .ok (.getfield 19, 3) := dk_180 0 19 (by decide +kernel)
theorem dX0_vote_4 : decode cX0_vote 4 = .ok (.iconst (-1), 1) := dk_2 (by decide +kernel)
theorem dX0_vote_5 : decode cX0_vote 5 = .ok (.if_icmp .eq 16, 3) := dk_159 0 16 (by decide +kernel)
theorem dX0_vote_8 : decode cX0_vote 8 = .ok (.aload_n 0, 1) := dk_42 (by decide +kernel)
theorem dX0_vote_9 : decode cX0_vote 9 = .ok (.aload_n 0, 1) := dk_42 (by decide +kernel)
theorem dX0_vote_10 : decode cX0_vote 10 = .ok (.getfield 19, 3) := dk_180 0 19 (by decide +kernel)
theorem dX0_vote_13 : decode cX0_vote 13 = .ok (.invokevirtual 117, 3) := dk_182 0 117 (by decide +kernel)
theorem dX0_vote_16 : decode cX0_vote 16 = .ok (.iload 4, 2) := dk_21 (by decide +kernel)
theorem dX0_vote_18 : decode cX0_vote 18 = .ok (.if_icmp .ge 4, 3) := dk_162 0 4 (by decide +kernel)
theorem dX0_vote_21 : decode cX0_vote 21 = .ok (.return_, 1) := dk_177 (by decide +kernel)
theorem dX0_vote_22 : decode cX0_vote 22 = .ok (.aload_n 0, 1) := dk_42 (by decide +kernel)
theorem dX0_vote_23 : decode cX0_vote 23 = .ok (.invokevirtual 121, 3) := dk_182 0 121 (by decide +kernel)
theorem dX0_vote_26 : decode cX0_vote 26 = .ok (.ifCond .eq 26, 3) := dk_153 0 26 (by decide +kernel)
theorem dX0_vote_29 : decode cX0_vote 29 = .ok (.aload_n 0, 1) := dk_42 (by decide +kernel)
theorem dX0_vote_30 : decode cX0_vote 30 = .ok (.iload_n 1, 1) := dk_27 (by decide +kernel)
theorem dX0_vote_31 : decode cX0_vote 31 = .ok (.iload_n 2, 1) := dk_28 (by decide +kernel)
theorem dX0_vote_32 : decode cX0_vote 32 = .ok (.iload_n 3, 1) := dk_29 (by decide +kernel)
theorem dX0_vote_33 : decode cX0_vote 33 = .ok (.invokevirtual 125, 3) := dk_182 0 125 (by decide +kernel)
theorem dX0_vote_36 : decode cX0_vote 36 = .ok (.ifCond .eq 16, 3) := dk_153 0 16 (by decide +kernel)
theorem dX0_vote_39 : decode cX0_vote 39 = .ok (.aload_n 0, 1) := dk_42 (by decide +kernel)
theorem dX0_vote_40 : decode cX0_vote 40 = .ok (.getfield 23, 3) := dk_180 0 23 (by decide +kernel)
theorem dX0_vote_43 : decode cX0_vote 43 = .ok (.aload_n 0, 1) := dk_42 (by decide +kernel)
theorem dX0_vote_44 : decode cX0_vote 44 = .ok (.getfield 19, 3) := dk_180 0 19 (by decide +kernel)
theorem dX0_vote_47 : decode cX0_vote 47 = .ok (.dup2, 1) := dk_92 (by decide +kernel)
theorem dX0_vote_48 : decode cX0_vote 48 = .ok (.iaload, 1) := dk_46 (by decide +kernel)
theorem dX0_vote_49 : decode cX0_vote 49 = .ok (.iconst 1, 1) := dk_4 (by decide +kernel)
theorem dX0_vote_50 : decode cX0_vote 50 = .ok (.iadd, 1) := dk_96 (by decide +kernel)
theorem dX0_vote_51 : decode cX0_vote 51 = .ok (.iastore, 1) := dk_79 (by decide +kernel)
theorem dX0_vote_52 : decode cX0_vote 52 = .ok (.return_, 1) := dk_177 (by decide +kernel)
set_option maxRecDepth 8000 in
theorem e_X0_vote {g : ch_G} {A R : Nat} (hC : ck_Cx g A R) {d : Nat} {K : Option ck_V → ck_W → Prop} {w : ck_W} {a1 a2 a3 a4 : Int} (h : ((w 72 7) = (-1) → K none w) ∧ (¬ (w 72 7) = (-1) → ck_CI (ch_C g A R) d mX0_wordOdds [.inr (.inr 72), .inl (w 72 7)] w (fun v4 w3 => (a4 ≤ v4 → ck_CI (ch_C g A R) d mX0_isByInkAlone [.inr (.inr 72)] w3 (fun v8 w7 => (v8 = 0 → K none w7) ∧ (¬ v8 = 0 → ck_CI (ch_C g A R) d mX0_isUnlearnt [.inr (.inr 72), .inl a1, .inl a2, .inl a3] w7 (fun v12 w11 => (v12 = 0 → K none w11) ∧ (¬ v12 = 0 → (0 ≤ (w11 72 7) ∧ (w11 72 7) < 12) ∧ (ck_i ((w11 75 (w11 72 7)) + 1) ∧ (K none (ck_up w11 75 (w11 72 7) ((w11 75 (w11 72 7)) + 1))))))))) ∧ (¬ a4 ≤ v4 → K none w3)))) : ck_Ex (ch_C g A R) (d + 1) mX0_vote [.inr (.inr 72), .inl a1, .inl a2, .inl a3, .inl a4] w K :=
  ck_entry hC.1 [some (.inr (.inr 72)), some (.inl a1), some (.inl a2), some (.inl a3), some (.inl a4)] (by decide) (Nat.le_of_ble_eq_true rfl) rfl (fun q => q) (ck_in (fun hl => (ck_aload_n 1 rfl 0 dX0_vote_0 rfl rfl (ck_geti 4 rfl 7 dX0_vote_1 fl_X0_19 sh_72 rfl rfl _ rfl (fun (q1 : ck_i (w 72 7)) => (ck_iconst 5 rfl dX0_vote_4 rfl (ck_icmp_eq 8 rfl 21 dX0_vote_5 rfl q1 (show ck_i (-1) by decide) (fun c25 => (ck_vret dX0_vote_21 rfl (h.1 c25))) (fun c26 => (ck_aload_n 9 rfl 0 dX0_vote_8 rfl rfl (ck_aload_n 10 rfl 0 dX0_vote_9 rfl rfl (ck_geti 13 rfl 7 dX0_vote_10 fl_X0_19 sh_72 rfl rfl _ rfl (fun (q2 : ck_i (w 72 7)) => (ck_callV 16 rfl [.inl (w 72 7)] [] dX0_vote_13 cv_X0_117 sh_72 rfl rfl (Nat.le_of_ble_eq_true rfl) (And.intro q2 True.intro) (ck_mI (h.2 c26) (fun v4 w3 q5 h6 => (ck_iload 18 rfl dX0_vote_16 rfl (ck_icmp_ge 21 rfl 22 dX0_vote_18 rfl q5 hl.2.2.2.2.1 (fun c23 => (ck_aload_n 23 rfl 0 dX0_vote_22 rfl rfl (ck_callV 26 rfl [] [] dX0_vote_23 cv_X0_121 sh_72 rfl rfl (Nat.le_of_ble_eq_true rfl) True.intro (ck_mI (h6.1 c23) (fun v8 w7 q9 h10 => (ck_if_eq 29 rfl 52 dX0_vote_26 rfl q9 (fun c21 => (ck_vret dX0_vote_52 rfl (h10.1 c21))) (fun c22 => (ck_aload_n 30 rfl 0 dX0_vote_29 rfl rfl (ck_iload_n 31 rfl 1 dX0_vote_30 rfl rfl (ck_iload_n 32 rfl 2 dX0_vote_31 rfl rfl (ck_iload_n 33 rfl 3 dX0_vote_32 rfl rfl (ck_callV 36 rfl [.inl a1, .inl a2, .inl a3] [] dX0_vote_33 cv_X0_125 sh_72 rfl rfl (Nat.le_of_ble_eq_true rfl) (And.intro hl.2.1 (And.intro hl.2.2.1 (And.intro hl.2.2.2.1 True.intro))) (ck_mI (h10.2 c22) (fun v12 w11 q13 h14 => (ck_if_eq 39 rfl 52 dX0_vote_36 rfl q13 (fun c19 => (ck_vret dX0_vote_52 rfl (h14.1 c19))) (fun c20 => (ck_aload_n 40 rfl 0 dX0_vote_39 rfl rfl (ck_getr 43 rfl dX0_vote_40 fl_X0_23 sh_72 rfl (ck_aload_n 44 rfl 0 dX0_vote_43 rfl rfl (ck_geti 47 rfl 7 dX0_vote_44 fl_X0_19 sh_72 rfl rfl _ rfl (fun (q15 : ck_i (w11 72 7)) => (ck_dup2 48 rfl dX0_vote_47 rfl rfl (have h28 := (h14.2 c20); have o16 := h28.1; have h27 := h28.2; (ck_iald 49 rfl dX0_vote_48 sh_75 (shn_75 hC) o16 _ rfl (fun (q17 : ck_i (w11 75 (w11 72 7))) => (ck_iconst 50 rfl dX0_vote_49 rfl (ck_iadd 51 rfl dX0_vote_50 (have h30 := h27; have o18 := h30.1; have h29 := h30.2; (ck_iast 52 rfl dX0_vote_51 sh_75 (shn_75 hC) o16 o18 (ck_vret dX0_vote_52 rfl h29)))))))))))))))))))))))))))))) (fun c24 => (ck_vret dX0_vote_21 rfl (h6.2 c24))))))))))))))))))))
theorem p_X0_vote {g : ch_G} {A R : Nat} (hC : ck_Cx g A R) {d : Nat} {K : Option ck_V → ck_W → Prop} {w : ck_W} {a1 a2 a3 a4 : Int} {w0 : ck_W} (hX : cs_X w0) (hc : 0 ≤ w 10 3 ∧ w 10 3 ≤ 4) (L : cb_LK A R w0 w a1 a2 a3) (hv : ∀ k, 0 ≤ k → k < 12 → 0 ≤ w 75 k ∧ w 75 k ≤ 100) (h1 : cb_vo w a1 a2 a3 a4 ≠ -1 → (0 ≤ cb_vo w a1 a2 a3 a4 ∧ cb_vo w a1 a2 a3 a4 < 12) → K none (ck_up w 75 (cb_vo w a1 a2 a3 a4) (w 75 (cb_vo w a1 a2 a3 a4) + 1))) (h0 : cb_vo w a1 a2 a3 a4 = -1 → K none w) : ck_Ex (ch_C g A R) (d + 6) mX0_vote [.inr (.inr 72), .inl a1, .inl a2, .inl a3, .inl a4] w K := by
  have c := cs_ar hC
  have no : ¬ (w 72 7 ≠ -1 ∧ a4 ≤ cb_od w (w 72 7) ∧ cb_by w ∧ cb_un w a1 a2 a3) → K none w := fun q => h0 (by unfold cb_vo; rw [if_neg q])
  refine e_X0_vote hC ⟨fun z => no (fun x => x.1 z), fun z => ?_⟩
  have b := cb_LKb hX L z
  have n5 := b.2.1.2.2.2.1
  have wb := b.2.2.2.1
  have pl := b.1
  refine p_X0_wordOdds hC n5 b.2.2.2.2.2.1 ⟨_, rfl, fun _ => ⟨fun z2 => p_X0_isByInkAlone hC b.2.1 wb b.2.2.2.2.2.2 (fun by1 => ⟨_, rfl, fun _ => ⟨fun q => absurd q (by decide), fun _ => p_X0_isUnlearnt hC b.2.1 hc wb pl.1 (by have := pl.2; omega) (fun un => ⟨_, rfl, fun _ => ⟨fun q => absurd q (by decide), fun _ => ⟨by omega, ?_⟩⟩⟩) (fun un => ⟨_, rfl, fun _ => ⟨fun _ => no (fun x => un x.2.2.2), fun q => absurd rfl q⟩⟩)⟩⟩) (fun by0 => ⟨_, rfl, fun _ => ⟨fun _ => no (fun x => by0 x.2.2.1), fun q => absurd rfl q⟩⟩), fun z2 => no (fun x => z2 x.2.1)⟩⟩
  have e : cb_vo w a1 a2 a3 a4 = w 72 7 := by unfold cb_vo; rw [if_pos ⟨z, z2, by1, un⟩]
  have k := h1 (by rw [e]; exact z) (by rw [e]; omega)
  rw [e] at k
  have v := hv (w 72 7) wb.1 (by omega)
  exact ⟨by constructor <;> omega, k⟩
set_option maxRecDepth 8000 in
theorem e_fill_75 {g : ch_G} {A R : Nat} (hC : ck_Cx g A R) {d : Nat} {K : Option ck_V → ck_W → Prop} {w : ck_W} {a1 : Int} (h : ck_At (ch_C g A R) d mJ7_fill_53178 K 5 [some (.inr (.inr 75)), some (.inl a1), some (.inl 0), some (.inl 12)] [] w) : ck_Ex (ch_C g A R) d mJ7_fill_53178 [.inr (.inr 75), .inl a1] w K :=
  ck_entry hC.1 [some (.inr (.inr 75)), some (.inl a1), none, none] (by decide) (Nat.le_of_ble_eq_true rfl) rfl (fun q => q) (ck_in (fun hl => (ck_iconst 1 rfl dJ7_fill_53178_0 rfl (ck_istore_n 2 rfl 2 [some (.inr (.inr 75)), some (.inl a1), some (.inl 0), none] dJ7_fill_53178_1 rfl (Nat.le_of_ble_eq_true rfl) rfl rfl (show ck_i 0 by decide) (ck_aload_n 3 rfl 0 dJ7_fill_53178_2 rfl rfl (ck_alen 4 rfl 0 12 dJ7_fill_53178_3 sh_75 rfl rfl (ck_istore_n 5 rfl 3 [some (.inr (.inr 75)), some (.inl a1), some (.inl 0), some (.inl 12)] dJ7_fill_53178_4 rfl (Nat.le_of_ble_eq_true rfl) rfl rfl (ck_ln (shn_75 hC)) h)))))))
set_option maxRecDepth 8000 in
theorem r_fill_75_5 {g : ch_G} {A R : Nat} (hC : ck_Cx g A R) {d : Nat} {K : Option ck_V → ck_W → Prop} {w : ck_W} {a1 a2 a3 : Int} (h : (a3 ≤ a2 → K none w) ∧ (¬ a3 ≤ a2 → (0 ≤ a2 ∧ a2 < 12) ∧ (ck_i (a2 + 1) ∧ (ck_At (ch_C g A R) d mJ7_fill_53178 K 5 [some (.inr (.inr 75)), some (.inl a1), some (.inl (a2 + 1)), some (.inl a3)] [] (ck_up w 75 a2 a1))))) : ck_At (ch_C g A R) d mJ7_fill_53178 K 5 [some (.inr (.inr 75)), some (.inl a1), some (.inl a2), some (.inl a3)] [] w :=
  ck_in (fun hl => (ck_iload_n 6 rfl 2 dJ7_fill_53178_5 rfl rfl (ck_iload_n 7 rfl 3 dJ7_fill_53178_6 rfl rfl (ck_icmp_ge 10 rfl 20 dJ7_fill_53178_7 rfl hl.2.2.1 hl.2.2.2.1 (fun c3 => (ck_vret dJ7_fill_53178_20 rfl (h.1 c3))) (fun c4 => (ck_aload_n 11 rfl 0 dJ7_fill_53178_10 rfl rfl (ck_iload_n 12 rfl 2 dJ7_fill_53178_11 rfl rfl (ck_iload_n 13 rfl 1 dJ7_fill_53178_12 rfl rfl (have h6 := (h.2 c4); have o1 := h6.1; have h5 := h6.2; (ck_iast 14 rfl dJ7_fill_53178_13 sh_75 (shn_75 hC) o1 hl.2.1 (have h8 := h5; have o2 := h8.1; have h7 := h8.2; (ck_iinc 17 rfl [some (.inr (.inr 75)), some (.inl a1), some (.inl (a2 + 1)), some (.inl a3)] dJ7_fill_53178_14 rfl (Nat.le_of_ble_eq_true rfl) rfl rfl o2 (ck_goto 5 dJ7_fill_53178_17 rfl h7)))))))))))))
theorem dX0_clearVotes_0 : decode cX0_clearVotes 0 = .ok (.aload_n 0, 1) := dk_42 (by decide +kernel)
theorem dX0_clearVotes_1 : decode cX0_clearVotes 1 = .ok (.getfield 23, 3) := dk_180 0 23 (by decide +kernel)
theorem dX0_clearVotes_4 : decode cX0_clearVotes 4 = .ok (.iconst 0, 1) := dk_3 (by decide +kernel)
theorem dX0_clearVotes_5 : decode cX0_clearVotes 5 = .ok (.invokestatic 111, 3) := dk_184 0 111 (by decide +kernel)
theorem dX0_clearVotes_8 : decode cX0_clearVotes 8 = .ok (.return_, 1) := dk_177 (by decide +kernel)
set_option maxRecDepth 8000 in
theorem e_X0_clearVotes {g : ch_G} {A R : Nat} (hC : ck_Cx g A R) {d : Nat} {K : Option ck_V → ck_W → Prop} {w : ck_W} (h : ck_CN (ch_C g A R) d mJ7_fill_53178 [.inr (.inr 75), .inl 0] w (fun w1 => K none w1)) : ck_Ex (ch_C g A R) (d + 1) mX0_clearVotes [.inr (.inr 72)] w K :=
  ck_entry hC.1 [some (.inr (.inr 72))] (by decide) (Nat.le_of_ble_eq_true rfl) rfl (fun q => q) (ck_in (fun hl => (ck_aload_n 1 rfl 0 dX0_clearVotes_0 rfl rfl (ck_getr 4 rfl dX0_clearVotes_1 fl_X0_23 sh_72 rfl (ck_iconst 5 rfl dX0_clearVotes_4 rfl (ck_callS 8 rfl [.inr (.inr 75), .inl 0] [] dX0_clearVotes_5 cs_X0_111 rfl rfl (Nat.le_of_ble_eq_true rfl) (And.intro True.intro (And.intro (show ck_i 0 by decide) True.intro)) (ck_mN h (fun w1 h2 => (ck_vret dX0_clearVotes_8 rfl h2)))))))))
theorem p_X0_clearVotes {g : ch_G} {A R : Nat} (hC : ck_Cx g A R) {d : Nat} {K : Option ck_V → ck_W → Prop} {w : ck_W} (h : ∀ w', (∀ k, k ≠ 75 → w' k = w k) → (∀ j, 0 ≤ j → j < 12 → w' 75 j = 0) → K none w') : ck_Ex (ch_C g A R) (d + 1) mX0_clearVotes [.inr (.inr 72)] w K := by
  refine e_X0_clearVotes hC ?_
  have l : ∀ (n : Nat) (a2 : Int) (u : ck_W), 12 - a2 = n → 0 ≤ a2 → (∀ k, k ≠ 75 → u k = w k) → (∀ j, 0 ≤ j → j < a2 → u 75 j = 0) → ck_At (ch_C g A R) d mJ7_fill_53178 (fun r w' => r = none ∧ K none w') 5 [some (.inr (.inr 75)), some (.inl 0), some (.inl a2), some (.inl 12)] [] u := by
    intro n
    induction n with
    | zero =>
      intro a2 u g1 g2 g3 g4
      exact r_fill_75_5 hC ⟨fun _ => ⟨rfl, h u g3 (fun j a b => g4 j a (by omega))⟩, fun q => absurd (by omega) q⟩
    | succ n ih =>
      intro a2 u g1 g2 g3 g4
      refine r_fill_75_5 hC ⟨fun q => absurd q (by omega), fun q => ⟨by omega, by constructor <;> omega, ih _ _ (by omega) (by omega) (fun k hk => by rw [ck_up_ne hk]; exact g3 k hk) (fun j a b => ?_)⟩⟩
      rw [ck_up_at]
      split
      · rfl
      · exact g4 j a (by omega)
  exact e_fill_75 hC (l 12 0 w (by omega) (by omega) (fun _ _ => rfl) (fun j a b => by omega))
theorem dX0_mostVoted_0 : decode cX0_mostVoted 0 = .ok (.iconst (-1), 1) := dk_2 (by decide +kernel)
theorem dX0_mostVoted_1 : decode cX0_mostVoted 1 = .ok (.istore_n 2, 1) := dk_61 (by decide +kernel)
theorem dX0_mostVoted_2 : decode cX0_mostVoted 2 = .ok (.iconst 0, 1) := dk_3 (by decide +kernel)
theorem dX0_mostVoted_3 : decode cX0_mostVoted 3 = .ok (.istore_n 3, 1) := dk_62 (by decide +kernel)
theorem dX0_mostVoted_4 : decode cX0_mostVoted 4 = .ok (.iload_n 3, 1) := dk_29 (by decide +kernel)
theorem dX0_mostVoted_5 : decode cX0_mostVoted 5 = .ok (.aload_n 0, 1) := dk_42 (by decide +kernel)
theorem dX0_mostVoted_6 : decode cX0_mostVoted 6 = .ok (.getfield 42, 3) := dk_180 0 42 (by decide +kernel)
theorem dX0_mostVoted_9 : decode cX0_mostVoted 9 = .ok (.getfield 70, 3) := dk_180 0 70 (by decide +kernel)
theorem dX0_mostVoted_12 : decode cX0_mostVoted 12 = .ok (.if_icmp .ge 41, 3) := dk_162 0 41 (by decide +kernel)
theorem dX0_mostVoted_15 : decode cX0_mostVoted 15 = .ok (.aload_n 0, 1) := dk_42 (by decide +kernel)
theorem dX0_mostVoted_16 : decode cX0_mostVoted 16 = .ok (.getfield 23, 3) := dk_180 0 23 (by decide +kernel)
theorem dX0_mostVoted_19 : decode cX0_mostVoted 19 = .ok (.iload_n 3, 1) := dk_29 (by decide +kernel)
theorem dX0_mostVoted_20 : decode cX0_mostVoted 20 = .ok (.iaload, 1) := dk_46 (by decide +kernel)
theorem dX0_mostVoted_21 : decode cX0_mostVoted 21 = .ok (.iload_n 1, 1) := dk_27 (by decide +kernel)
theorem dX0_mostVoted_22 : decode cX0_mostVoted 22 = .ok (.if_icmp .lt 25, 3) := dk_161 0 25 (by decide +kernel)
theorem dX0_mostVoted_25 : decode cX0_mostVoted 25 = .ok (.iload_n 2, 1) := dk_28 (by decide +kernel)
theorem dX0_mostVoted_26 : decode cX0_mostVoted 26 = .ok (.iconst (-1), 1) := dk_2 (by decide +kernel)
theorem dX0_mostVoted_27 : decode cX0_mostVoted 27 = .ok (.if_icmp .eq 18, 3) := dk_159 0 18 (by decide +kernel)
theorem dX0_mostVoted_30 : decode cX0_mostVoted 30 = .ok (.aload_n 0, 1) := dk_42 (by decide +kernel)
theorem dX0_mostVoted_31 : decode cX0_mostVoted 31 = .ok (.getfield 23, 3) := dk_180 0 23 (by decide +kernel)
theorem dX0_mostVoted_34 : decode cX0_mostVoted 34 = .ok (.iload_n 3, 1) := dk_29 (by decide +kernel)
theorem dX0_mostVoted_35 : decode cX0_mostVoted 35 = .ok (.iaload, 1) := dk_46 (by decide +kernel)
theorem dX0_mostVoted_36 : decode cX0_mostVoted 36 = .ok (.aload_n 0, 1) := dk_42 (by decide +kernel)
theorem dX0_mostVoted_37 : decode cX0_mostVoted 37 = .ok (.getfield 23, 3) := dk_180 0 23 (by decide +kernel)
theorem dX0_mostVoted_40 : decode cX0_mostVoted 40 = .ok (.iload_n 2, 1) := dk_28 (by decide +kernel)
theorem dX0_mostVoted_41 : decode cX0_mostVoted 41 = .ok (.iaload, 1) := dk_46 (by decide +kernel)
theorem dX0_mostVoted_42 : decode cX0_mostVoted 42 = .ok (.if_icmp .le 5, 3) := dk_164 0 5 (by decide +kernel)
theorem dX0_mostVoted_45 : decode cX0_mostVoted 45 = .ok (.iload_n 3, 1) := dk_29 (by decide +kernel)
theorem dX0_mostVoted_46 : decode cX0_mostVoted 46 = .ok (.istore_n 2, 1) := dk_61 (by decide +kernel)
theorem dX0_mostVoted_47 : decode cX0_mostVoted 47 = .ok (.iinc 3 1, 3) := dk_132 1 (by decide +kernel)
theorem dX0_mostVoted_50 : decode cX0_mostVoted 50 = .ok (.goto (-46), 3) := dk_167 255 210 (by decide +kernel)
theorem dX0_mostVoted_53 : decode cX0_mostVoted 53 = .ok (.iload_n 2, 1) := dk_28 (by decide +kernel)
theorem dX0_mostVoted_54 : decode cX0_mostVoted 54 = .ok (.ireturn, 1) := dk_172 (by decide +kernel)
set_option maxRecDepth 8000 in
theorem e_X0_mostVoted {g : ch_G} {A R : Nat} (hC : ck_Cx g A R) {d : Nat} {K : Option ck_V → ck_W → Prop} {w : ck_W} {a1 : Int} (h : ck_At (ch_C g A R) d mX0_mostVoted K 4 [some (.inr (.inr 72)), some (.inl a1), some (.inl (-1)), some (.inl 0)] [] w) : ck_Ex (ch_C g A R) d mX0_mostVoted [.inr (.inr 72), .inl a1] w K :=
  ck_entry hC.1 [some (.inr (.inr 72)), some (.inl a1), none, none] (by decide) (Nat.le_of_ble_eq_true rfl) rfl (fun q => q) (ck_in (fun hl => (ck_iconst 1 rfl dX0_mostVoted_0 rfl (ck_istore_n 2 rfl 2 [some (.inr (.inr 72)), some (.inl a1), some (.inl (-1)), none] dX0_mostVoted_1 rfl (Nat.le_of_ble_eq_true rfl) rfl rfl (show ck_i (-1) by decide) (ck_iconst 3 rfl dX0_mostVoted_2 rfl (ck_istore_n 4 rfl 3 [some (.inr (.inr 72)), some (.inl a1), some (.inl (-1)), some (.inl 0)] dX0_mostVoted_3 rfl (Nat.le_of_ble_eq_true rfl) rfl rfl (show ck_i 0 by decide) h))))))
set_option maxRecDepth 8000 in
theorem r_X0_mostVoted_4 {g : ch_G} {A R : Nat} (hC : ck_Cx g A R) {d : Nat} {K : Option ck_V → ck_W → Prop} {w : ck_W} {a1 a2 a3 : Int} (h : ((w 15 5) ≤ a3 → K (some (.inl a2)) w) ∧ (¬ (w 15 5) ≤ a3 → (0 ≤ a3 ∧ a3 < 12) ∧ (((w 75 a3) < a1 → ck_i (a3 + 1) ∧ (ck_At (ch_C g A R) d mX0_mostVoted K 4 [some (.inr (.inr 72)), some (.inl a1), some (.inl a2), some (.inl (a3 + 1))] [] w)) ∧ (¬ (w 75 a3) < a1 → (a2 = (-1) → ck_i (a3 + 1) ∧ (ck_At (ch_C g A R) d mX0_mostVoted K 4 [some (.inr (.inr 72)), some (.inl a1), some (.inl a3), some (.inl (a3 + 1))] [] w)) ∧ (¬ a2 = (-1) → (0 ≤ a2 ∧ a2 < 12) ∧ (((w 75 a3) ≤ (w 75 a2) → ck_i (a3 + 1) ∧ (ck_At (ch_C g A R) d mX0_mostVoted K 4 [some (.inr (.inr 72)), some (.inl a1), some (.inl a2), some (.inl (a3 + 1))] [] w)) ∧ (¬ (w 75 a3) ≤ (w 75 a2) → ck_i (a3 + 1) ∧ (ck_At (ch_C g A R) d mX0_mostVoted K 4 [some (.inr (.inr 72)), some (.inl a1), some (.inl a3), some (.inl (a3 + 1))] [] w)))))))) : ck_At (ch_C g A R) d mX0_mostVoted K 4 [some (.inr (.inr 72)), some (.inl a1), some (.inl a2), some (.inl a3)] [] w :=
  ck_in (fun hl => (ck_iload_n 5 rfl 3 dX0_mostVoted_4 rfl rfl (ck_aload_n 6 rfl 0 dX0_mostVoted_5 rfl rfl (ck_getr 9 rfl dX0_mostVoted_6 fl_X0_42 sh_72 rfl (ck_geti 12 rfl 5 dX0_mostVoted_9 fl_X0_70 sh_15 rfl rfl _ rfl (fun (q1 : ck_i (w 15 5)) => (ck_icmp_ge 15 rfl 53 dX0_mostVoted_12 rfl hl.2.2.2.1 q1 (fun c17 => (ck_iload_n 54 rfl 2 dX0_mostVoted_53 rfl rfl (ck_iret dX0_mostVoted_54 rfl hl.2.2.1 (h.1 c17)))) (fun c18 => (ck_aload_n 16 rfl 0 dX0_mostVoted_15 rfl rfl (ck_getr 19 rfl dX0_mostVoted_16 fl_X0_23 sh_72 rfl (ck_iload_n 20 rfl 3 dX0_mostVoted_19 rfl rfl (have h20 := (h.2 c18); have o2 := h20.1; have h19 := h20.2; (ck_iald 21 rfl dX0_mostVoted_20 sh_75 (shn_75 hC) o2 _ rfl (fun (q3 : ck_i (w 75 a3)) => (ck_iload_n 22 rfl 1 dX0_mostVoted_21 rfl rfl (ck_icmp_lt 25 rfl 47 dX0_mostVoted_22 rfl q3 hl.2.1 (fun c15 => (have h22 := (h19.1 c15); have o4 := h22.1; have h21 := h22.2; (ck_iinc 50 rfl [some (.inr (.inr 72)), some (.inl a1), some (.inl a2), some (.inl (a3 + 1))] dX0_mostVoted_47 rfl (Nat.le_of_ble_eq_true rfl) rfl rfl o4 (ck_goto 4 dX0_mostVoted_50 rfl h21)))) (fun c16 => (ck_iload_n 26 rfl 2 dX0_mostVoted_25 rfl rfl (ck_iconst 27 rfl dX0_mostVoted_26 rfl (have h23 := (h19.2 c16); (ck_icmp_eq 30 rfl 45 dX0_mostVoted_27 rfl hl.2.2.1 (show ck_i (-1) by decide) (fun c13 => (ck_iload_n 46 rfl 3 dX0_mostVoted_45 rfl rfl (ck_istore_n 47 rfl 2 [some (.inr (.inr 72)), some (.inl a1), some (.inl a3), some (.inl a3)] dX0_mostVoted_46 rfl (Nat.le_of_ble_eq_true rfl) rfl rfl hl.2.2.2.1 (have h25 := (h23.1 c13); have o5 := h25.1; have h24 := h25.2; (ck_iinc 50 rfl [some (.inr (.inr 72)), some (.inl a1), some (.inl a3), some (.inl (a3 + 1))] dX0_mostVoted_47 rfl (Nat.le_of_ble_eq_true rfl) rfl rfl o5 (ck_goto 4 dX0_mostVoted_50 rfl h24)))))) (fun c14 => (ck_aload_n 31 rfl 0 dX0_mostVoted_30 rfl rfl (ck_getr 34 rfl dX0_mostVoted_31 fl_X0_23 sh_72 rfl (ck_iload_n 35 rfl 3 dX0_mostVoted_34 rfl rfl (ck_iald 36 rfl dX0_mostVoted_35 sh_75 (shn_75 hC) o2 _ rfl (fun (q6 : ck_i (w 75 a3)) => (ck_aload_n 37 rfl 0 dX0_mostVoted_36 rfl rfl (ck_getr 40 rfl dX0_mostVoted_37 fl_X0_23 sh_72 rfl (ck_iload_n 41 rfl 2 dX0_mostVoted_40 rfl rfl (have h27 := (h23.2 c14); have o7 := h27.1; have h26 := h27.2; (ck_iald 42 rfl dX0_mostVoted_41 sh_75 (shn_75 hC) o7 _ rfl (fun (q8 : ck_i (w 75 a2)) => (ck_icmp_le 45 rfl 47 dX0_mostVoted_42 rfl q6 q8 (fun c11 => (have h29 := (h26.1 c11); have o9 := h29.1; have h28 := h29.2; (ck_iinc 50 rfl [some (.inr (.inr 72)), some (.inl a1), some (.inl a2), some (.inl (a3 + 1))] dX0_mostVoted_47 rfl (Nat.le_of_ble_eq_true rfl) rfl rfl o9 (ck_goto 4 dX0_mostVoted_50 rfl h28)))) (fun c12 => (ck_iload_n 46 rfl 3 dX0_mostVoted_45 rfl rfl (ck_istore_n 47 rfl 2 [some (.inr (.inr 72)), some (.inl a1), some (.inl a3), some (.inl a3)] dX0_mostVoted_46 rfl (Nat.le_of_ble_eq_true rfl) rfl rfl hl.2.2.2.1 (have h31 := (h26.2 c12); have o10 := h31.1; have h30 := h31.2; (ck_iinc 50 rfl [some (.inr (.inr 72)), some (.inl a1), some (.inl a3), some (.inl (a3 + 1))] dX0_mostVoted_47 rfl (Nat.le_of_ble_eq_true rfl) rfl rfl o10 (ck_goto 4 dX0_mostVoted_50 rfl h30))))))))))))))))))))))))))))))))))))))))
def cb_mv (f : Int → Int) (m : Int) : Nat → Int
  | 0 => -1
  | n + 1 => if f n < m then cb_mv f m n else if cb_mv f m n = -1 then n else if f n ≤ f (cb_mv f m n) then cb_mv f m n else n
theorem cb_mvb (f : Int → Int) (m : Int) : ∀ n : Nat, cb_mv f m n = -1 ∨ (0 ≤ cb_mv f m n ∧ cb_mv f m n < n)
  | 0 => Or.inl rfl
  | n + 1 => by
    have i := cb_mvb f m n
    rw [cb_mv]
    repeat' split
    all_goals omega
theorem p_X0_mostVoted {g : ch_G} {A R : Nat} (hC : ck_Cx g A R) {d : Nat} {K : Option ck_V → ck_W → Prop} {w : ck_W} {a1 : Int} (hn : 0 ≤ w 15 5 ∧ w 15 5 ≤ 12) (h : K (some (.inl (cb_mv (w 75) a1 (w 15 5).toNat))) w) : ck_Ex (ch_C g A R) d mX0_mostVoted [.inr (.inr 72), .inl a1] w K := by
  have lp : ∀ (n k : Nat), w 15 5 - (k : Int) = n → ck_At (ch_C g A R) d mX0_mostVoted K 4 [some (.inr (.inr 72)), some (.inl a1), some (.inl (cb_mv (w 75) a1 k)), some (.inl (k : Int))] [] w := by
    intro n
    induction n with
    | zero =>
      intro k g1
      rw [show (w 15 5).toNat = k by omega] at h
      exact r_X0_mostVoted_4 hC ⟨fun _ => h, fun q => absurd (by omega) q⟩
    | succ n ih =>
      intro k g1
      have i := ih (k + 1) (by omega)
      rw [show ((k + 1 : Nat) : Int) = (k : Int) + 1 by omega] at i
      rw [cb_mv] at i
      have mb := cb_mvb (w 75) a1 k
      refine r_X0_mostVoted_4 hC ⟨fun q => absurd q (by omega), fun _ => ⟨by omega, fun z => ⟨by constructor <;> omega, by rw [if_pos z] at i; exact i⟩, fun z => ?_⟩⟩
      rw [if_neg z] at i
      refine ⟨fun z2 => ⟨by constructor <;> omega, by rw [if_pos z2] at i; exact i⟩, fun z2 => ?_⟩
      rw [if_neg z2] at i
      exact ⟨by omega, fun z3 => ⟨by constructor <;> omega, by rw [if_pos z3] at i; exact i⟩, fun z3 => ⟨by constructor <;> omega, by rw [if_neg z3] at i; exact i⟩⟩
  exact e_X0_mostVoted hC (lp (w 15 5).toNat 0 (by omega))
/-- how many of n readers count for a word -/
def cb_ct (vs : Int → Int) (k : Int) : Nat → Int
  | 0 => 0
  | n + 1 => cb_ct vs k n + if vs n = k then 1 else 0
theorem cb_ctb (vs : Int → Int) (k : Int) : ∀ n : Nat, 0 ≤ cb_ct vs k n ∧ cb_ct vs k n ≤ n
  | 0 => by rw [cb_ct]; omega
  | n + 1 => by
    have := cb_ctb vs k n
    rw [cb_ct]
    split <;> omega
theorem cb_mv_fr {f g : Int → Int} {m : Int} : ∀ n : Nat, (∀ k : Int, 0 ≤ k → k < n → f k = g k) → cb_mv f m n = cb_mv g m n
  | 0, _ => rfl
  | n + 1, h => by
    have i := cb_mv_fr (m := m) n (fun k a b => h k a (by omega))
    have b := cb_mvb g m n
    rw [cb_mv, cb_mv, i, h n (by omega) (by omega)]
    rcases b with e | e
    · rw [if_pos e, if_pos e]
    · rw [h _ e.1 (by omega)]
theorem dX11_printed_0 : decode cX11_printed 0 = .ok (.iload_n 1, 1) := dk_27 (by decide +kernel)
theorem dX11_printed_1 : decode cX11_printed 1 = .ok (.iconst 0, 1) := dk_3 (by decide +kernel)
theorem dX11_printed_2 : decode cX11_printed 2 = .ok (.iconst 1, 1) := dk_4 (by decide +kernel)
theorem dX11_printed_3 : decode cX11_printed 3 = .ok (.aload_n 0, 1) := dk_42 (by decide +kernel)
theorem dX11_printed_4 : decode cX11_printed 4 = .ok (.getfield 14, 3) := dk_180 0 14 (by decide +kernel)
theorem dX11_printed_7 : decode cX11_printed 7 = .ok (.getfield 56, 3) := dk_180 0 56 (by decide +kernel)
theorem dX11_printed_10 : decode cX11_printed 10 = .ok (.getfield 182, 3) := dk_180 0 182 (by decide +kernel)
theorem dX11_printed_13 : decode cX11_printed 13 = .ok (.ishl, 1) := dk_120 (by decide +kernel)
theorem dX11_printed_14 : decode cX11_printed 14 = .ok (.iconst 1, 1) := dk_4 (by decide +kernel)
theorem dX11_printed_15 : decode cX11_printed 15 = .ok (.isub, 1) := dk_100 (by decide +kernel)
theorem dX11_printed_16 : decode cX11_printed 16 = .ok (.invokestatic 82, 3) := dk_184 0 82 (by decide +kernel)
theorem dX11_printed_19 : decode cX11_printed 19 = .ok (.ifCond .ne 5, 3) := dk_154 0 5 (by decide +kernel)
theorem dX11_printed_22 : decode cX11_printed 22 = .ok (.iconst (-1), 1) := dk_2 (by decide +kernel)
theorem dX11_printed_23 : decode cX11_printed 23 = .ok (.ireturn, 1) := dk_172 (by decide +kernel)
theorem dX11_printed_24 : decode cX11_printed 24 = .ok (.iload 4, 2) := dk_21 (by decide +kernel)
theorem dX11_printed_26 : decode cX11_printed 26 = .ok (.iconst 0, 1) := dk_3 (by decide +kernel)
theorem dX11_printed_27 : decode cX11_printed 27 = .ok (.sipush 1000, 3) := dk_17 3 232 (by decide +kernel)
theorem dX11_printed_30 : decode cX11_printed 30 = .ok (.invokestatic 82, 3) := dk_184 0 82 (by decide +kernel)
theorem dX11_printed_33 : decode cX11_printed 33 = .ok (.ifCond .eq 13, 3) := dk_153 0 13 (by decide +kernel)
theorem dX11_printed_36 : decode cX11_printed 36 = .ok (.iload 5, 2) := dk_21 (by decide +kernel)
theorem dX11_printed_38 : decode cX11_printed 38 = .ok (.iconst 1, 1) := dk_4 (by decide +kernel)
theorem dX11_printed_39 : decode cX11_printed 39 = .ok (.iconst 4, 1) := dk_7 (by decide +kernel)
theorem dX11_printed_40 : decode cX11_printed 40 = .ok (.invokestatic 82, 3) := dk_184 0 82 (by decide +kernel)
theorem dX11_printed_43 : decode cX11_printed 43 = .ok (.ifCond .ne 5, 3) := dk_154 0 5 (by decide +kernel)
theorem dX11_printed_46 : decode cX11_printed 46 = .ok (.iconst (-1), 1) := dk_2 (by decide +kernel)
theorem dX11_printed_47 : decode cX11_printed 47 = .ok (.ireturn, 1) := dk_172 (by decide +kernel)
theorem dX11_printed_48 : decode cX11_printed 48 = .ok (.aload_n 0, 1) := dk_42 (by decide +kernel)
theorem dX11_printed_49 : decode cX11_printed 49 = .ok (.getfield 30, 3) := dk_180 0 30 (by decide +kernel)
theorem dX11_printed_52 : decode cX11_printed 52 = .ok (.iload_n 2, 1) := dk_28 (by decide +kernel)
theorem dX11_printed_53 : decode cX11_printed 53 = .ok (.invokevirtual 265, 3) := dk_182 1 9 (by decide +kernel)
theorem dX11_printed_56 : decode cX11_printed 56 = .ok (.aload_n 0, 1) := dk_42 (by decide +kernel)
theorem dX11_printed_57 : decode cX11_printed 57 = .ok (.getfield 72, 3) := dk_180 0 72 (by decide +kernel)
theorem dX11_printed_60 : decode cX11_printed 60 = .ok (.invokevirtual 300, 3) := dk_182 1 44 (by decide +kernel)
theorem dX11_printed_63 : decode cX11_printed 63 = .ok (.iconst 0, 1) := dk_3 (by decide +kernel)
theorem dX11_printed_64 : decode cX11_printed 64 = .ok (.istore 6, 2) := dk_54 (by decide +kernel)
theorem dX11_printed_66 : decode cX11_printed 66 = .ok (.iload 6, 2) := dk_21 (by decide +kernel)
theorem dX11_printed_68 : decode cX11_printed 68 = .ok (.aload_n 0, 1) := dk_42 (by decide +kernel)
theorem dX11_printed_69 : decode cX11_printed 69 = .ok (.getfield 14, 3) := dk_180 0 14 (by decide +kernel)
theorem dX11_printed_72 : decode cX11_printed 72 = .ok (.getfield 56, 3) := dk_180 0 56 (by decide +kernel)
theorem dX11_printed_75 : decode cX11_printed 75 = .ok (.getfield 182, 3) := dk_180 0 182 (by decide +kernel)
theorem dX11_printed_78 : decode cX11_printed 78 = .ok (.if_icmp .ge 43, 3) := dk_162 0 43 (by decide +kernel)
theorem dX11_printed_81 : decode cX11_printed 81 = .ok (.iload_n 1, 1) := dk_27 (by decide +kernel)
theorem dX11_printed_82 : decode cX11_printed 82 = .ok (.iload 6, 2) := dk_21 (by decide +kernel)
theorem dX11_printed_84 : decode cX11_printed 84 = .ok (.ishr, 1) := dk_122 (by decide +kernel)
theorem dX11_printed_85 : decode cX11_printed 85 = .ok (.iconst 1, 1) := dk_4 (by decide +kernel)
theorem dX11_printed_86 : decode cX11_printed 86 = .ok (.iand, 1) := dk_126 (by decide +kernel)
theorem dX11_printed_87 : decode cX11_printed 87 = .ok (.iconst 1, 1) := dk_4 (by decide +kernel)
theorem dX11_printed_88 : decode cX11_printed 88 = .ok (.if_icmp .ne 27, 3) := dk_160 0 27 (by decide +kernel)
theorem dX11_printed_91 : decode cX11_printed 91 = .ok (.aload_n 0, 1) := dk_42 (by decide +kernel)
theorem dX11_printed_92 : decode cX11_printed 92 = .ok (.getfield 72, 3) := dk_180 0 72 (by decide +kernel)
theorem dX11_printed_95 : decode cX11_printed 95 = .ok (.iload 6, 2) := dk_21 (by decide +kernel)
theorem dX11_printed_97 : decode cX11_printed 97 = .ok (.iload_n 2, 1) := dk_28 (by decide +kernel)
theorem dX11_printed_98 : decode cX11_printed 98 = .ok (.iload_n 3, 1) := dk_29 (by decide +kernel)
theorem dX11_printed_99 : decode cX11_printed 99 = .ok (.invokevirtual 283, 3) := dk_182 1 27 (by decide +kernel)
theorem dX11_printed_102 : decode cX11_printed 102 = .ok (.aload_n 0, 1) := dk_42 (by decide +kernel)
theorem dX11_printed_103 : decode cX11_printed 103 = .ok (.getfield 72, 3) := dk_180 0 72 (by decide +kernel)
theorem dX11_printed_106 : decode cX11_printed 106 = .ok (.iload 6, 2) := dk_21 (by decide +kernel)
theorem dX11_printed_108 : decode cX11_printed 108 = .ok (.iload_n 2, 1) := dk_28 (by decide +kernel)
theorem dX11_printed_109 : decode cX11_printed 109 = .ok (.iload_n 3, 1) := dk_29 (by decide +kernel)
theorem dX11_printed_110 : decode cX11_printed 110 = .ok (.iload 4, 2) := dk_21 (by decide +kernel)
theorem dX11_printed_112 : decode cX11_printed 112 = .ok (.invokevirtual 303, 3) := dk_182 1 47 (by decide +kernel)
theorem dX11_printed_115 : decode cX11_printed 115 = .ok (.iinc 6 1, 3) := dk_132 1 (by decide +kernel)
theorem dX11_printed_118 : decode cX11_printed 118 = .ok (.goto (-52), 3) := dk_167 255 204 (by decide +kernel)
theorem dX11_printed_121 : decode cX11_printed 121 = .ok (.aload_n 0, 1) := dk_42 (by decide +kernel)
theorem dX11_printed_122 : decode cX11_printed 122 = .ok (.getfield 72, 3) := dk_180 0 72 (by decide +kernel)
theorem dX11_printed_125 : decode cX11_printed 125 = .ok (.iload 5, 2) := dk_21 (by decide +kernel)
theorem dX11_printed_127 : decode cX11_printed 127 = .ok (.invokevirtual 307, 3) := dk_182 1 51 (by decide +kernel)
theorem dX11_printed_130 : decode cX11_printed 130 = .ok (.ireturn, 1) := dk_172 (by decide +kernel)
set_option maxRecDepth 8000 in
theorem e_X11_printed {g : ch_G} {A R : Nat} (hC : ck_Cx g A R) {d : Nat} {K : Option ck_V → ck_W → Prop} {w : ck_W} {a1 a2 a3 a4 a5 : Int} (h : ck_i ((ck_shl 1 (w 10 3)) - 1) ∧ ((0 ≤ a1 ∧ a1 ≤ ((ck_shl 1 (w 10 3)) - 1) → (0 ≤ a4 ∧ a4 ≤ 1000 → (1 ≤ a5 ∧ a5 ≤ 4 → ck_CN (ch_C g A R) d mX10_settleRows [.inr (.inr 51), .inl a2] w (fun w3 => ck_CN (ch_C g A R) d mX0_clearVotes [.inr (.inr 72)] w3 (fun w4 => ck_At (ch_C g A R) (d + 1) mX11_printed K 66 [some (.inr (.inr 0)), some (.inl a1), some (.inl a2), some (.inl a3), some (.inl a4), some (.inl a5), some (.inl 0)] [] w4))) ∧ (¬ (1 ≤ a5 ∧ a5 ≤ 4) → K (some (.inl (-1))) w)) ∧ (¬ (0 ≤ a4 ∧ a4 ≤ 1000) → K (some (.inl (-1))) w)) ∧ (¬ (0 ≤ a1 ∧ a1 ≤ ((ck_shl 1 (w 10 3)) - 1)) → K (some (.inl (-1))) w))) : ck_Ex (ch_C g A R) (d + 1) mX11_printed [.inr (.inr 0), .inl a1, .inl a2, .inl a3, .inl a4, .inl a5] w K :=
  ck_entry hC.1 [some (.inr (.inr 0)), some (.inl a1), some (.inl a2), some (.inl a3), some (.inl a4), some (.inl a5), none] (by decide) (Nat.le_of_ble_eq_true rfl) rfl (fun q => q) (ck_in (fun hl => (ck_iload_n 1 rfl 1 dX11_printed_0 rfl rfl (ck_iconst 2 rfl dX11_printed_1 rfl (ck_iconst 3 rfl dX11_printed_2 rfl (ck_aload_n 4 rfl 0 dX11_printed_3 rfl rfl (ck_getr 7 rfl dX11_printed_4 fl_X11_14 sh_0 rfl (ck_getr 10 rfl dX11_printed_7 fl_X11_56 sh_1 rfl (ck_geti 13 rfl 3 dX11_printed_10 fl_X11_182 sh_10 rfl rfl _ rfl (fun (q1 : ck_i (w 10 3)) => (ck_ishl 14 rfl dX11_printed_13 (ck_iconst 15 rfl dX11_printed_14 rfl (ck_isub 16 rfl dX11_printed_15 (have h17 := h; have o2 := h17.1; have h16 := h17.2; (have h15 := h16; ck_callS 19 rfl [.inl a1, .inl 0, .inl ((ck_shl 1 (w 10 3)) - 1)] [] dX11_printed_16 cs_X11_82 rfl rfl (Nat.le_of_ble_eq_true rfl) (And.intro hl.2.1 (And.intro (show ck_i 0 by decide) (And.intro o2 True.intro))) (p_X11_within hC (fun c13 _ => (ck_if_ne 22 rfl 24 dX11_printed_19 rfl (by decide) (fun _ => (ck_iload 26 rfl dX11_printed_24 rfl (ck_iconst 27 rfl dX11_printed_26 rfl (ck_sipush 30 rfl dX11_printed_27 rfl (have h12 := (h15.1 c13); ck_callS 33 rfl [.inl a4, .inl 0, .inl 1000] [] dX11_printed_30 cs_X11_82 rfl rfl (Nat.le_of_ble_eq_true rfl) (And.intro hl.2.2.2.2.1 (And.intro (show ck_i 0 by decide) (And.intro (show ck_i 1000 by decide) True.intro))) (p_X11_within hC (fun c10 _ => (ck_if_eq 36 rfl 46 dX11_printed_33 rfl (by decide) (fun q => absurd q (by decide)) (fun _ => (ck_iload 38 rfl dX11_printed_36 rfl (ck_iconst 39 rfl dX11_printed_38 rfl (ck_iconst 40 rfl dX11_printed_39 rfl (have h9 := (h12.1 c10); ck_callS 43 rfl [.inl a5, .inl 1, .inl 4] [] dX11_printed_40 cs_X11_82 rfl rfl (Nat.le_of_ble_eq_true rfl) (And.intro hl.2.2.2.2.2.1 (And.intro (show ck_i 1 by decide) (And.intro (show ck_i 4 by decide) True.intro))) (p_X11_within hC (fun c7 _ => (ck_if_ne 46 rfl 48 dX11_printed_43 rfl (by decide) (fun _ => (ck_aload_n 49 rfl 0 dX11_printed_48 rfl rfl (ck_getr 52 rfl dX11_printed_49 fl_X11_30 sh_0 rfl (ck_iload_n 53 rfl 2 dX11_printed_52 rfl rfl (ck_callV 56 rfl [.inl a2] [] dX11_printed_53 cv_X11_265 sh_51 rfl rfl (Nat.le_of_ble_eq_true rfl) (And.intro hl.2.2.1 True.intro) (ck_mN (h9.1 c7) (fun w3 h6 => (ck_aload_n 57 rfl 0 dX11_printed_56 rfl rfl (ck_getr 60 rfl dX11_printed_57 fl_X11_72 sh_0 rfl (ck_callV 63 rfl [] [] dX11_printed_60 cv_X11_300 sh_72 rfl rfl (Nat.le_of_ble_eq_true rfl) True.intro (ck_mN h6 (fun w4 h5 => (ck_iconst 64 rfl dX11_printed_63 rfl (ck_istore 66 rfl [some (.inr (.inr 0)), some (.inl a1), some (.inl a2), some (.inl a3), some (.inl a4), some (.inl a5), some (.inl 0)] dX11_printed_64 (Nat.le_of_ble_eq_true rfl) rfl rfl (show ck_i 0 by decide) h5)))))))))))))) (fun q => absurd q (by decide)))) (fun c8 _ => (ck_if_ne 46 rfl 48 dX11_printed_43 rfl (by decide) (fun q => absurd q (by decide)) (fun _ => (ck_iconst 47 rfl dX11_printed_46 rfl (ck_iret dX11_printed_47 rfl (show ck_i (-1) by decide) (h9.2 c8)))))))))))))) (fun c11 _ => (ck_if_eq 36 rfl 46 dX11_printed_33 rfl (by decide) (fun _ => (ck_iconst 47 rfl dX11_printed_46 rfl (ck_iret dX11_printed_47 rfl (show ck_i (-1) by decide) (h12.2 c11)))) (fun q => absurd q (by decide)))))))))) (fun q => absurd q (by decide)))) (fun c14 _ => (ck_if_ne 22 rfl 24 dX11_printed_19 rfl (by decide) (fun q => absurd q (by decide)) (fun _ => (ck_iconst 23 rfl dX11_printed_22 rfl (ck_iret dX11_printed_23 rfl (show ck_i (-1) by decide) (h15.2 c14))))))))))))))))))))))
set_option maxRecDepth 8000 in
theorem r_X11_printed_66 {g : ch_G} {A R : Nat} (hC : ck_Cx g A R) {d : Nat} {K : Option ck_V → ck_W → Prop} {w : ck_W} {a1 a2 a3 a4 a5 a6 : Int} (h : ((w 10 3) ≤ a6 → ck_CI (ch_C g A R) d mX0_mostVoted [.inr (.inr 72), .inl a5] w (fun v3 w2 => K (some (.inl v3)) w2)) ∧ (¬ (w 10 3) ≤ a6 → (¬ (ck_and (ck_shr a1 a6) 1) = 1 → ck_i (a6 + 1) ∧ (ck_At (ch_C g A R) (d + 1) mX11_printed K 66 [some (.inr (.inr 0)), some (.inl a1), some (.inl a2), some (.inl a3), some (.inl a4), some (.inl a5), some (.inl (a6 + 1))] [] w)) ∧ ((ck_and (ck_shr a1 a6) 1) = 1 → ck_CN (ch_C g A R) d mX0_look [.inr (.inr 72), .inl a6, .inl a2, .inl a3] w (fun w7 => ck_CN (ch_C g A R) d mX0_vote [.inr (.inr 72), .inl a6, .inl a2, .inl a3, .inl a4] w7 (fun w8 => ck_i (a6 + 1) ∧ (ck_At (ch_C g A R) (d + 1) mX11_printed K 66 [some (.inr (.inr 0)), some (.inl a1), some (.inl a2), some (.inl a3), some (.inl a4), some (.inl a5), some (.inl (a6 + 1))] [] w8)))))) : ck_At (ch_C g A R) (d + 1) mX11_printed K 66 [some (.inr (.inr 0)), some (.inl a1), some (.inl a2), some (.inl a3), some (.inl a4), some (.inl a5), some (.inl a6)] [] w :=
  ck_in (fun hl => (ck_iload 68 rfl dX11_printed_66 rfl (ck_aload_n 69 rfl 0 dX11_printed_68 rfl rfl (ck_getr 72 rfl dX11_printed_69 fl_X11_14 sh_0 rfl (ck_getr 75 rfl dX11_printed_72 fl_X11_56 sh_1 rfl (ck_geti 78 rfl 3 dX11_printed_75 fl_X11_182 sh_10 rfl rfl _ rfl (fun (q1 : ck_i (w 10 3)) => (ck_icmp_ge 81 rfl 121 dX11_printed_78 rfl hl.2.2.2.2.2.2.1 q1 (fun c14 => (ck_aload_n 122 rfl 0 dX11_printed_121 rfl rfl (ck_getr 125 rfl dX11_printed_122 fl_X11_72 sh_0 rfl (ck_iload 127 rfl dX11_printed_125 rfl (ck_callV 130 rfl [.inl a5] [] dX11_printed_127 cv_X11_307 sh_72 rfl rfl (Nat.le_of_ble_eq_true rfl) (And.intro hl.2.2.2.2.2.1 True.intro) (ck_mI (h.1 c14) (fun v3 w2 q4 h5 => (ck_iret dX11_printed_130 rfl q4 h5)))))))) (fun c15 => (ck_iload_n 82 rfl 1 dX11_printed_81 rfl rfl (ck_iload 84 rfl dX11_printed_82 rfl (ck_ishr 85 rfl dX11_printed_84 (ck_iconst 86 rfl dX11_printed_85 rfl (ck_iand 87 rfl dX11_printed_86 (ck_iconst 88 rfl dX11_printed_87 rfl (have h16 := (h.2 c15); (ck_icmp_ne 91 rfl 115 dX11_printed_88 rfl (ck_rng _) (show ck_i 1 by decide) (fun c12 => (have h18 := (h16.1 c12); have o6 := h18.1; have h17 := h18.2; (ck_iinc 118 rfl [some (.inr (.inr 0)), some (.inl a1), some (.inl a2), some (.inl a3), some (.inl a4), some (.inl a5), some (.inl (a6 + 1))] dX11_printed_115 rfl (Nat.le_of_ble_eq_true rfl) rfl rfl o6 (ck_goto 66 dX11_printed_118 rfl h17)))) (fun c13 => (ck_aload_n 92 rfl 0 dX11_printed_91 rfl rfl (ck_getr 95 rfl dX11_printed_92 fl_X11_72 sh_0 rfl (ck_iload 97 rfl dX11_printed_95 rfl (ck_iload_n 98 rfl 2 dX11_printed_97 rfl rfl (ck_iload_n 99 rfl 3 dX11_printed_98 rfl rfl (ck_callV 102 rfl [.inl a6, .inl a2, .inl a3] [] dX11_printed_99 cv_X11_283 sh_72 rfl rfl (Nat.le_of_ble_eq_true rfl) (And.intro hl.2.2.2.2.2.2.1 (And.intro hl.2.2.1 (And.intro hl.2.2.2.1 True.intro))) (ck_mN (h16.2 c13) (fun w7 h11 => (ck_aload_n 103 rfl 0 dX11_printed_102 rfl rfl (ck_getr 106 rfl dX11_printed_103 fl_X11_72 sh_0 rfl (ck_iload 108 rfl dX11_printed_106 rfl (ck_iload_n 109 rfl 2 dX11_printed_108 rfl rfl (ck_iload_n 110 rfl 3 dX11_printed_109 rfl rfl (ck_iload 112 rfl dX11_printed_110 rfl (ck_callV 115 rfl [.inl a6, .inl a2, .inl a3, .inl a4] [] dX11_printed_112 cv_X11_303 sh_72 rfl rfl (Nat.le_of_ble_eq_true rfl) (And.intro hl.2.2.2.2.2.2.1 (And.intro hl.2.2.1 (And.intro hl.2.2.2.1 (And.intro hl.2.2.2.2.1 True.intro)))) (ck_mN h11 (fun w8 h10 => (have h20 := h10; have o9 := h20.1; have h19 := h20.2; (ck_iinc 118 rfl [some (.inr (.inr 0)), some (.inl a1), some (.inl a2), some (.inl a3), some (.inl a4), some (.inl a5), some (.inl (a6 + 1))] dX11_printed_115 rfl (Nat.le_of_ble_eq_true rfl) rfl rfl o9 (ck_goto 66 dX11_printed_118 rfl h19))))))))))))))))))))))))))))))))))))))
theorem C_printed {g : ch_G} {A R : Nat} (hC : ck_Cx g A R) {d : Nat} {K : Option ck_V → ck_W → Prop} {w : ck_W} {a1 a2 a3 a4 a5 : Int} (hI : cw_IV A R w) (hY : cs_Yc A R w) (hR : cs_Cd w) (hX : cs_X w) (h1 : (0 ≤ a1 ∧ a1 ≤ ck_shl 1 (w 10 3) - 1) ∧ (0 ≤ a4 ∧ a4 ≤ 1000) ∧ (1 ≤ a5 ∧ a5 ≤ 4) → ∀ w1 w' (vs : Int → Int), cs_q w w1 → cw_IV A R w1 → (0 ≤ a2 ∧ a2 ≤ 3 → ∀ z, a2 ≤ z → z ≤ a2 + 2 → w1 59 z ≠ 0) → (∀ r, 0 ≤ r → r < w 10 3 → (¬ ck_and (ck_shr a1 r) 1 = 1 ∧ vs r = -1) ∨ (ck_and (ck_shr a1 r) 1 = 1 ∧ ∃ u0 u, (∀ k, k < 70 → u0 k = w1 k) ∧ cb_LK A R u0 u r a2 a3 ∧ vs r = cb_vo u r a2 a3 a4)) → cs_Q w w' → cw_IV A R w' → K (some (.inl (cb_mv (fun k => cb_ct vs k (w 10 3).toNat) a5 (w 15 5).toNat))) w') (h0 : ¬ ((0 ≤ a1 ∧ a1 ≤ ck_shl 1 (w 10 3) - 1) ∧ (0 ≤ a4 ∧ a4 ≤ 1000) ∧ (1 ≤ a5 ∧ a5 ≤ 4)) → K (some (.inl (-1))) w) : ck_Ex (ch_C g A R) (d + 7) mX11_printed [.inr (.inr 0), .inl a1, .inl a2, .inl a3, .inl a4, .inl a5] w K := by
  have c3 := hR.1
  have n5 := hX.2.2.2.1
  have sh := cs_pp (k := w 10 3) (by omega)
  refine e_X11_printed hC ⟨by constructor <;> omega, fun p1 => ⟨fun p2 => ⟨fun p3 => S_X10_settleRows hC hI (fun w1 k1 k2 k3 k4 => ⟨rfl, p_X0_clearVotes hC (fun w2 m1 m2 => ⟨rfl, ?_⟩)⟩), fun q => h0 (fun x => q x.2.2)⟩, fun q => h0 (fun x => q x.2.1)⟩, fun q => h0 (fun x => q x.1)⟩
  have k := h1 ⟨p1, p2, p3⟩
  have lp : ∀ (n r : Nat) (vs : Int → Int) (u : ck_W), w 10 3 - (r : Int) = n → (∀ j, j < 70 ∨ 76 ≤ j → u j = w1 j) → (∀ i, 0 ≤ i → i < (r : Int) → (¬ ck_and (ck_shr a1 i) 1 = 1 ∧ vs i = -1) ∨ (ck_and (ck_shr a1 i) 1 = 1 ∧ ∃ u0 u, (∀ k, k < 70 → u0 k = w1 k) ∧ cb_LK A R u0 u i a2 a3 ∧ vs i = cb_vo u i a2 a3 a4)) → (∀ j, 0 ≤ j → j < 12 → u 75 j = cb_ct vs j r) → ck_At (ch_C g A R) (d + 7) mX11_printed K 66 [some (.inr (.inr 0)), some (.inl a1), some (.inl a2), some (.inl a3), some (.inl a4), some (.inl a5), some (.inl (r : Int))] [] u := by
    intro n
    induction n with
    | zero =>
      intro r vs u g1 g2 g3 g4
      have u10 : u 10 = w 10 := by rw [g2 10 (by decide), k1 10 (by decide)]
      have u15 : u 15 = w 15 := by rw [g2 15 (by decide), k1 15 (by decide)]
      refine r_X11_printed_66 hC ⟨fun _ => p_X0_mostVoted hC (by rw [u15]; exact n5) ⟨_, rfl, fun _ => ?_⟩, fun q => absurd (by rw [u10]; omega) q⟩
      have er : (w 10 3).toNat = r := by omega
      have kk := k w1 u vs k1 k2 k4 (fun i a b => g3 i a (by omega)) (fun j hj => by rw [g2 j (by omega), k1 j (by omega)]) (cw_IV_fr hC k2 (fun j hj => g2 j (by omega)))
      rw [er] at kk
      rw [u15, cb_mv_fr (g := fun k => cb_ct vs k r) _ (fun j a b => g4 j a (by omega))]
      exact kk
    | succ n ih =>
      intro r vs u g1 g2 g3 g4
      have u10 : u 10 = w 10 := by rw [g2 10 (by decide), k1 10 (by decide)]
      have uQ : cs_Q w u := fun j hj => by rw [g2 j (by omega), k1 j (by omega)]
      have uI := cw_IV_fr hC k2 (w' := u) (fun j hj => g2 j (by omega))
      have uX : cs_X u := cs_X_fr hX (fun j a b => uQ j (by omega))
      refine r_X11_printed_66 hC ⟨fun q => absurd q (by rw [u10]; omega), fun _ => ⟨fun z => ⟨by constructor <;> omega, ?_⟩, fun z => p_X0_look hC (cv_Hof uI (cs_Yc_fr hY uQ)) uI.1.2.1 (cs_Cd_fr hR uQ) uX (fun v L => ⟨rfl, ?_⟩)⟩⟩
      · rw [show (r : Int) + 1 = ((r + 1 : Nat) : Int) by omega]
        refine ih (r + 1) (rm_u vs r (-1)) u (by omega) g2 (fun i i0 i1 => ?_) (fun j j0 j1 => ?_)
        · by_cases e : i = r
          · rw [e, rm_u_eq]; exact Or.inl ⟨z, rfl⟩
          · rw [rm_u_ne e]; exact g3 i i0 (by omega)
        · have e : ∀ m : Nat, m ≤ r → cb_ct (rm_u vs r (-1)) j m = cb_ct vs j m := by
            intro m
            induction m with
            | zero => intro _; rfl
            | succ m ihm => intro hm; rw [cb_ct, cb_ct, ihm (by omega), rm_u_ne (by omega)]
          rw [cb_ct, e r (by omega), rm_u_eq, if_neg (by omega), g4 j j0 j1]
          omega
      · have v75 : v 75 = u 75 := L.1 75 (by decide)
        have v10 : v 10 = w 10 := by rw [L.1 10 (by decide)]; exact u10
        have step : ∀ (v' : ck_W), (∀ j, j ≠ 75 → v' j = v j) → (∀ j, 0 ≤ j → j < 12 → v' 75 j = u 75 j + if cb_vo v r a2 a3 a4 = j then 1 else 0) → ck_At (ch_C g A R) (d + 7) mX11_printed K 66 [some (.inr (.inr 0)), some (.inl a1), some (.inl a2), some (.inl a3), some (.inl a4), some (.inl a5), some (.inl ((r : Int) + 1))] [] v' := by
          intro v' f1 f2
          rw [show (r : Int) + 1 = ((r + 1 : Nat) : Int) by omega]
          refine ih (r + 1) (rm_u vs r (cb_vo v r a2 a3 a4)) v' (by omega) (fun j hj => by rw [f1 j (by omega), L.1 j (by omega)]; exact g2 j hj) (fun i i0 i1 => ?_) (fun j j0 j1 => ?_)
          · by_cases e : i = r
            · rw [e, rm_u_eq]; exact Or.inr ⟨z, u, v, fun j hj => g2 j (Or.inl hj), L, rfl⟩
            · rw [rm_u_ne e]; exact g3 i i0 (by omega)
          · have e : ∀ m : Nat, m ≤ r → cb_ct (rm_u vs r (cb_vo v r a2 a3 a4)) j m = cb_ct vs j m := by
              intro m
              induction m with
              | zero => intro _; rfl
              | succ m ihm => intro hm; rw [cb_ct, cb_ct, ihm (by omega), rm_u_ne (by omega)]
            rw [cb_ct, e r (by omega), rm_u_eq, f2 j j0 j1, g4 j j0 j1]
        refine p_X0_vote hC uX (by rw [v10]; exact c3) L (fun j a b => by rw [v75, g4 j a b]; have := cb_ctb vs j r; omega) (fun ne rg => ⟨rfl, by constructor <;> omega, step _ (fun j hj => by rw [ck_up_ne hj]) (fun j a b => ?_)⟩) (fun eq => ⟨rfl, by constructor <;> omega, step v (fun _ _ => rfl) (fun j a b => ?_)⟩)
        · rw [ck_up_at, v75]
          by_cases y : j = cb_vo v r a2 a3 a4
          · rw [if_pos y, if_pos y.symm, y]
          · rw [if_neg y, if_neg (fun x => y x.symm)]; omega
        · rw [v75, eq, if_neg (by omega)]; omega
  exact lp (w 10 3).toNat 0 (fun _ => -1) w2 (by omega) (fun j hj => m1 j (by omega)) (fun i a b => by omega) (fun j a b => by rw [cb_ct]; exact m2 j a b)
