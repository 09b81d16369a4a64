/-! ===== printed by gen/shape.py: the shape, cell by cell ===== -/
def ck_Cx (g : ch_G) (A R : Nat) : Prop := ch_Ok (ch_C g A R) ∧ 3 ≤ A ∧ A ≤ 6 ∧ 4 ≤ R ∧ R ≤ 12
theorem ck_il {e : Int} (h : ck_i e) : ck_l e := ⟨by simp only [ck_i] at h; omega, by simp only [ck_i] at h; omega⟩
theorem ck_ln {n : Nat} (h : n < 2147483648) : ck_i (n : Int) := ⟨by omega, by omega⟩
theorem sh_0 {g : ch_G} {A R : Nat} : (ch_C g A R).2.2.2.2.2[0]? = some (.inr (11, [.inr (.inr 1), .inr (.inr 2), .inr (.inr 51), .inr (.inr 64), .inr (.inr 67), .inr (.inr 70), .inr (.inr 72)])) := rfl
theorem sh_1 {g : ch_G} {A R : Nat} : (ch_C g A R).2.2.2.2.2[1]? = some (.inr (8, [.inr (.inr 3), .inr (.inr 8), .inr (.inr 10), .inr (.inr 15), .inr (.inr 20)])) := rfl
theorem sh_2 {g : ch_G} {A R : Nat} : (ch_C g A R).2.2.2.2.2[2]? = some (.inr (8, [.inr (.inr 27), .inr (.inr 32), .inr (.inr 34), .inr (.inr 39), .inr (.inr 44)])) := rfl
theorem sh_3 {g : ch_G} {A R : Nat} : (ch_C g A R).2.2.2.2.2[3]? = some (.inr (5, [.inl (), .inl (), .inr (.inr 4), .inr (.inr 5), .inr (.inr 6), .inr (.inr 7), .inl ()])) := rfl
theorem sh_4 {g : ch_G} {A R : Nat} : (ch_C g A R).2.2.2.2.2[4]? = some (.inl (.int, 6 * A * R)) := rfl
theorem shn_4 {g : ch_G} {A R : Nat} (hC : ck_Cx g A R) : 6 * A * R < 2147483648 := by
  obtain ⟨-, h1, h2, h3, h4⟩ := hC
  rcases (by omega : A = 3 ∨ A = 4 ∨ A = 5 ∨ A = 6) with rfl | rfl | rfl | rfl <;> (try simp) <;> omega
theorem sh_5 {g : ch_G} {A R : Nat} : (ch_C g A R).2.2.2.2.2[5]? = some (.inl (.int, 6 * A * R)) := rfl
theorem shn_5 {g : ch_G} {A R : Nat} (hC : ck_Cx g A R) : 6 * A * R < 2147483648 := by
  obtain ⟨-, h1, h2, h3, h4⟩ := hC
  rcases (by omega : A = 3 ∨ A = 4 ∨ A = 5 ∨ A = 6) with rfl | rfl | rfl | rfl <;> (try simp) <;> omega
theorem sh_6 {g : ch_G} {A R : Nat} : (ch_C g A R).2.2.2.2.2[6]? = some (.inl (.int, 6)) := rfl
theorem shn_6 {g : ch_G} {A R : Nat} (_ : ck_Cx g A R) : 6 < 2147483648 := by decide
theorem sh_7 {g : ch_G} {A R : Nat} : (ch_C g A R).2.2.2.2.2[7]? = some (.inl (.int, 144)) := rfl
theorem shn_7 {g : ch_G} {A R : Nat} (_ : ck_Cx g A R) : 144 < 2147483648 := by decide
theorem sh_8 {g : ch_G} {A R : Nat} : (ch_C g A R).2.2.2.2.2[8]? = some (.inr (9, [.inr (.inr 9), .inl (), .inl ()])) := rfl
theorem sh_9 {g : ch_G} {A R : Nat} : (ch_C g A R).2.2.2.2.2[9]? = some (.inl (.int, 30)) := rfl
theorem shn_9 {g : ch_G} {A R : Nat} (_ : ck_Cx g A R) : 30 < 2147483648 := by decide
theorem sh_10 {g : ch_G} {A R : Nat} : (ch_C g A R).2.2.2.2.2[10]? = some (.inr (4, [.inr (.inr 11), .inr (.inr 12), .inr (.inr 13), .inl (), .inr (.inr 14), .inl ()])) := rfl
theorem sh_11 {g : ch_G} {A R : Nat} : (ch_C g A R).2.2.2.2.2[11]? = some (.inl (.int, 1200)) := rfl
theorem shn_11 {g : ch_G} {A R : Nat} (_ : ck_Cx g A R) : 1200 < 2147483648 := by decide
theorem sh_12 {g : ch_G} {A R : Nat} : (ch_C g A R).2.2.2.2.2[12]? = some (.inl (.int, 4)) := rfl
theorem shn_12 {g : ch_G} {A R : Nat} (_ : ck_Cx g A R) : 4 < 2147483648 := by decide
theorem sh_13 {g : ch_G} {A R : Nat} : (ch_C g A R).2.2.2.2.2[13]? = some (.inl (.int, 4)) := rfl
theorem shn_13 {g : ch_G} {A R : Nat} (_ : ck_Cx g A R) : 4 < 2147483648 := by decide
theorem sh_14 {g : ch_G} {A R : Nat} : (ch_C g A R).2.2.2.2.2[14]? = some (.inl (.int, 144)) := rfl
theorem shn_14 {g : ch_G} {A R : Nat} (_ : ck_Cx g A R) : 144 < 2147483648 := by decide
theorem sh_15 {g : ch_G} {A R : Nat} : (ch_C g A R).2.2.2.2.2[15]? = some (.inr (2, [.inr (.inr 16), .inr (.inr 17), .inl (), .inr (.inr 18), .inr (.inr 19), .inl (), .inl (), .inl ()])) := rfl
theorem sh_16 {g : ch_G} {A R : Nat} : (ch_C g A R).2.2.2.2.2[16]? = some (.inl (.int, 12)) := rfl
theorem shn_16 {g : ch_G} {A R : Nat} (_ : ck_Cx g A R) : 12 < 2147483648 := by decide
theorem sh_17 {g : ch_G} {A R : Nat} : (ch_C g A R).2.2.2.2.2[17]? = some (.inl (.int, 12)) := rfl
theorem shn_17 {g : ch_G} {A R : Nat} (_ : ck_Cx g A R) : 12 < 2147483648 := by decide
theorem sh_18 {g : ch_G} {A R : Nat} : (ch_C g A R).2.2.2.2.2[18]? = some (.inl (.int, 36)) := rfl
theorem shn_18 {g : ch_G} {A R : Nat} (_ : ck_Cx g A R) : 36 < 2147483648 := by decide
theorem sh_19 {g : ch_G} {A R : Nat} : (ch_C g A R).2.2.2.2.2[19]? = some (.inl (.int, 12)) := rfl
theorem shn_19 {g : ch_G} {A R : Nat} (_ : ck_Cx g A R) : 12 < 2147483648 := by decide
theorem sh_20 {g : ch_G} {A R : Nat} : (ch_C g A R).2.2.2.2.2[20]? = some (.inr (3, [.inr (.inr 21), .inr (.inr 22), .inr (.inr 23), .inl (), .inr (.inr 24), .inr (.inr 25), .inr (.inr 26)])) := rfl
theorem sh_21 {g : ch_G} {A R : Nat} : (ch_C g A R).2.2.2.2.2[21]? = some (.inl (.int, 16)) := rfl
theorem shn_21 {g : ch_G} {A R : Nat} (_ : ck_Cx g A R) : 16 < 2147483648 := by decide
theorem sh_22 {g : ch_G} {A R : Nat} : (ch_C g A R).2.2.2.2.2[22]? = some (.inl (.int, 16)) := rfl
theorem shn_22 {g : ch_G} {A R : Nat} (_ : ck_Cx g A R) : 16 < 2147483648 := by decide
theorem sh_23 {g : ch_G} {A R : Nat} : (ch_C g A R).2.2.2.2.2[23]? = some (.inl (.int, 16)) := rfl
theorem shn_23 {g : ch_G} {A R : Nat} (_ : ck_Cx g A R) : 16 < 2147483648 := by decide
theorem sh_24 {g : ch_G} {A R : Nat} : (ch_C g A R).2.2.2.2.2[24]? = some (.inl (.int, 4)) := rfl
theorem shn_24 {g : ch_G} {A R : Nat} (_ : ck_Cx g A R) : 4 < 2147483648 := by decide
theorem sh_25 {g : ch_G} {A R : Nat} : (ch_C g A R).2.2.2.2.2[25]? = some (.inl (.int, 401)) := rfl
theorem shn_25 {g : ch_G} {A R : Nat} (_ : ck_Cx g A R) : 401 < 2147483648 := by decide
theorem sh_26 {g : ch_G} {A R : Nat} : (ch_C g A R).2.2.2.2.2[26]? = some (.inl (.int, 401)) := rfl
theorem shn_26 {g : ch_G} {A R : Nat} (_ : ck_Cx g A R) : 401 < 2147483648 := by decide
theorem sh_27 {g : ch_G} {A R : Nat} : (ch_C g A R).2.2.2.2.2[27]? = some (.inr (5, [.inl (), .inl (), .inr (.inr 28), .inr (.inr 29), .inr (.inr 30), .inr (.inr 31), .inl ()])) := rfl
theorem sh_28 {g : ch_G} {A R : Nat} : (ch_C g A R).2.2.2.2.2[28]? = some (.inl (.int, 6 * A * R)) := rfl
theorem shn_28 {g : ch_G} {A R : Nat} (hC : ck_Cx g A R) : 6 * A * R < 2147483648 := by
  obtain ⟨-, h1, h2, h3, h4⟩ := hC
  rcases (by omega : A = 3 ∨ A = 4 ∨ A = 5 ∨ A = 6) with rfl | rfl | rfl | rfl <;> (try simp) <;> omega
theorem sh_29 {g : ch_G} {A R : Nat} : (ch_C g A R).2.2.2.2.2[29]? = some (.inl (.int, 6 * A * R)) := rfl
theorem shn_29 {g : ch_G} {A R : Nat} (hC : ck_Cx g A R) : 6 * A * R < 2147483648 := by
  obtain ⟨-, h1, h2, h3, h4⟩ := hC
  rcases (by omega : A = 3 ∨ A = 4 ∨ A = 5 ∨ A = 6) with rfl | rfl | rfl | rfl <;> (try simp) <;> omega
theorem sh_30 {g : ch_G} {A R : Nat} : (ch_C g A R).2.2.2.2.2[30]? = some (.inl (.int, 6)) := rfl
theorem shn_30 {g : ch_G} {A R : Nat} (_ : ck_Cx g A R) : 6 < 2147483648 := by decide
theorem sh_31 {g : ch_G} {A R : Nat} : (ch_C g A R).2.2.2.2.2[31]? = some (.inl (.int, 144)) := rfl
theorem shn_31 {g : ch_G} {A R : Nat} (_ : ck_Cx g A R) : 144 < 2147483648 := by decide
theorem sh_32 {g : ch_G} {A R : Nat} : (ch_C g A R).2.2.2.2.2[32]? = some (.inr (9, [.inr (.inr 33), .inl (), .inl ()])) := rfl
theorem sh_33 {g : ch_G} {A R : Nat} : (ch_C g A R).2.2.2.2.2[33]? = some (.inl (.int, 30)) := rfl
theorem shn_33 {g : ch_G} {A R : Nat} (_ : ck_Cx g A R) : 30 < 2147483648 := by decide
theorem sh_34 {g : ch_G} {A R : Nat} : (ch_C g A R).2.2.2.2.2[34]? = some (.inr (4, [.inr (.inr 35), .inr (.inr 36), .inr (.inr 37), .inl (), .inr (.inr 38), .inl ()])) := rfl
theorem sh_35 {g : ch_G} {A R : Nat} : (ch_C g A R).2.2.2.2.2[35]? = some (.inl (.int, 1200)) := rfl
theorem shn_35 {g : ch_G} {A R : Nat} (_ : ck_Cx g A R) : 1200 < 2147483648 := by decide
theorem sh_36 {g : ch_G} {A R : Nat} : (ch_C g A R).2.2.2.2.2[36]? = some (.inl (.int, 4)) := rfl
theorem shn_36 {g : ch_G} {A R : Nat} (_ : ck_Cx g A R) : 4 < 2147483648 := by decide
theorem sh_37 {g : ch_G} {A R : Nat} : (ch_C g A R).2.2.2.2.2[37]? = some (.inl (.int, 4)) := rfl
theorem shn_37 {g : ch_G} {A R : Nat} (_ : ck_Cx g A R) : 4 < 2147483648 := by decide
theorem sh_38 {g : ch_G} {A R : Nat} : (ch_C g A R).2.2.2.2.2[38]? = some (.inl (.int, 144)) := rfl
theorem shn_38 {g : ch_G} {A R : Nat} (_ : ck_Cx g A R) : 144 < 2147483648 := by decide
theorem sh_39 {g : ch_G} {A R : Nat} : (ch_C g A R).2.2.2.2.2[39]? = some (.inr (2, [.inr (.inr 40), .inr (.inr 41), .inl (), .inr (.inr 42), .inr (.inr 43), .inl (), .inl (), .inl ()])) := rfl
theorem sh_40 {g : ch_G} {A R : Nat} : (ch_C g A R).2.2.2.2.2[40]? = some (.inl (.int, 12)) := rfl
theorem shn_40 {g : ch_G} {A R : Nat} (_ : ck_Cx g A R) : 12 < 2147483648 := by decide
theorem sh_41 {g : ch_G} {A R : Nat} : (ch_C g A R).2.2.2.2.2[41]? = some (.inl (.int, 12)) := rfl
theorem shn_41 {g : ch_G} {A R : Nat} (_ : ck_Cx g A R) : 12 < 2147483648 := by decide
theorem sh_42 {g : ch_G} {A R : Nat} : (ch_C g A R).2.2.2.2.2[42]? = some (.inl (.int, 36)) := rfl
theorem shn_42 {g : ch_G} {A R : Nat} (_ : ck_Cx g A R) : 36 < 2147483648 := by decide
theorem sh_43 {g : ch_G} {A R : Nat} : (ch_C g A R).2.2.2.2.2[43]? = some (.inl (.int, 12)) := rfl
theorem shn_43 {g : ch_G} {A R : Nat} (_ : ck_Cx g A R) : 12 < 2147483648 := by decide
theorem sh_44 {g : ch_G} {A R : Nat} : (ch_C g A R).2.2.2.2.2[44]? = some (.inr (3, [.inr (.inr 45), .inr (.inr 46), .inr (.inr 47), .inl (), .inr (.inr 48), .inr (.inr 49), .inr (.inr 50)])) := rfl
theorem sh_45 {g : ch_G} {A R : Nat} : (ch_C g A R).2.2.2.2.2[45]? = some (.inl (.int, 16)) := rfl
theorem shn_45 {g : ch_G} {A R : Nat} (_ : ck_Cx g A R) : 16 < 2147483648 := by decide
theorem sh_46 {g : ch_G} {A R : Nat} : (ch_C g A R).2.2.2.2.2[46]? = some (.inl (.int, 16)) := rfl
theorem shn_46 {g : ch_G} {A R : Nat} (_ : ck_Cx g A R) : 16 < 2147483648 := by decide
theorem sh_47 {g : ch_G} {A R : Nat} : (ch_C g A R).2.2.2.2.2[47]? = some (.inl (.int, 16)) := rfl
theorem shn_47 {g : ch_G} {A R : Nat} (_ : ck_Cx g A R) : 16 < 2147483648 := by decide
theorem sh_48 {g : ch_G} {A R : Nat} : (ch_C g A R).2.2.2.2.2[48]? = some (.inl (.int, 4)) := rfl
theorem shn_48 {g : ch_G} {A R : Nat} (_ : ck_Cx g A R) : 4 < 2147483648 := by decide
theorem sh_49 {g : ch_G} {A R : Nat} : (ch_C g A R).2.2.2.2.2[49]? = some (.inl (.int, 401)) := rfl
theorem shn_49 {g : ch_G} {A R : Nat} (_ : ck_Cx g A R) : 401 < 2147483648 := by decide
theorem sh_50 {g : ch_G} {A R : Nat} : (ch_C g A R).2.2.2.2.2[50]? = some (.inl (.int, 401)) := rfl
theorem shn_50 {g : ch_G} {A R : Nat} (_ : ck_Cx g A R) : 401 < 2147483648 := by decide
theorem sh_51 {g : ch_G} {A R : Nat} : (ch_C g A R).2.2.2.2.2[51]? = some (.inr (10, [.inr (.inr 3), .inl (), .inr (.inr 52), .inr (.inr 53), .inr (.inr 54), .inr (.inr 55), .inr (.inr 56), .inl (), .inr (.inr 57), .inr (.inr 58), .inl (), .inl (), .inr (.inr 59), .inr (.inr 60), .inr (.inr 61), .inr (.inr 62), .inr (.inr 63)])) := rfl
theorem sh_52 {g : ch_G} {A R : Nat} : (ch_C g A R).2.2.2.2.2[52]? = some (.inl (.int, 3 ^ (A - 1) * A)) := rfl
theorem shn_52 {g : ch_G} {A R : Nat} (hC : ck_Cx g A R) : 3 ^ (A - 1) * A < 2147483648 := by
  obtain ⟨-, h1, h2, h3, h4⟩ := hC
  rcases (by omega : A = 3 ∨ A = 4 ∨ A = 5 ∨ A = 6) with rfl | rfl | rfl | rfl <;> (try simp) <;> omega
theorem sh_53 {g : ch_G} {A R : Nat} : (ch_C g A R).2.2.2.2.2[53]? = some (.inl (.int, 3 ^ (A - 1))) := rfl
theorem shn_53 {g : ch_G} {A R : Nat} (hC : ck_Cx g A R) : 3 ^ (A - 1) < 2147483648 := by
  obtain ⟨-, h1, h2, h3, h4⟩ := hC
  rcases (by omega : A = 3 ∨ A = 4 ∨ A = 5 ∨ A = 6) with rfl | rfl | rfl | rfl <;> (try simp) <;> omega
theorem sh_54 {g : ch_G} {A R : Nat} : (ch_C g A R).2.2.2.2.2[54]? = some (.inl (.int, 3 ^ (A - 1))) := rfl
theorem shn_54 {g : ch_G} {A R : Nat} (hC : ck_Cx g A R) : 3 ^ (A - 1) < 2147483648 := by
  obtain ⟨-, h1, h2, h3, h4⟩ := hC
  rcases (by omega : A = 3 ∨ A = 4 ∨ A = 5 ∨ A = 6) with rfl | rfl | rfl | rfl <;> (try simp) <;> omega
theorem sh_55 {g : ch_G} {A R : Nat} : (ch_C g A R).2.2.2.2.2[55]? = some (.inl (.int, 3 ^ (A - 1))) := rfl
theorem shn_55 {g : ch_G} {A R : Nat} (hC : ck_Cx g A R) : 3 ^ (A - 1) < 2147483648 := by
  obtain ⟨-, h1, h2, h3, h4⟩ := hC
  rcases (by omega : A = 3 ∨ A = 4 ∨ A = 5 ∨ A = 6) with rfl | rfl | rfl | rfl <;> (try simp) <;> omega
theorem sh_56 {g : ch_G} {A R : Nat} : (ch_C g A R).2.2.2.2.2[56]? = some (.inl (.int, 3 ^ (A - 1))) := rfl
theorem shn_56 {g : ch_G} {A R : Nat} (hC : ck_Cx g A R) : 3 ^ (A - 1) < 2147483648 := by
  obtain ⟨-, h1, h2, h3, h4⟩ := hC
  rcases (by omega : A = 3 ∨ A = 4 ∨ A = 5 ∨ A = 6) with rfl | rfl | rfl | rfl <;> (try simp) <;> omega
theorem sh_57 {g : ch_G} {A R : Nat} : (ch_C g A R).2.2.2.2.2[57]? = some (.inl (.int, (3 * A + 1) * R * 3 ^ (A - 1))) := rfl
theorem shn_57 {g : ch_G} {A R : Nat} (hC : ck_Cx g A R) : (3 * A + 1) * R * 3 ^ (A - 1) < 2147483648 := by
  obtain ⟨-, h1, h2, h3, h4⟩ := hC
  rcases (by omega : A = 3 ∨ A = 4 ∨ A = 5 ∨ A = 6) with rfl | rfl | rfl | rfl <;> (try simp) <;> omega
theorem sh_58 {g : ch_G} {A R : Nat} : (ch_C g A R).2.2.2.2.2[58]? = some (.inl (.int, 24 * R)) := rfl
theorem shn_58 {g : ch_G} {A R : Nat} (hC : ck_Cx g A R) : 24 * R < 2147483648 := by
  obtain ⟨-, h1, h2, h3, h4⟩ := hC
  rcases (by omega : A = 3 ∨ A = 4 ∨ A = 5 ∨ A = 6) with rfl | rfl | rfl | rfl <;> (try simp) <;> omega
theorem sh_59 {g : ch_G} {A R : Nat} : (ch_C g A R).2.2.2.2.2[59]? = some (.inl (.boolean, 6)) := rfl
theorem shn_59 {g : ch_G} {A R : Nat} (_ : ck_Cx g A R) : 6 < 2147483648 := by decide
theorem sh_60 {g : ch_G} {A R : Nat} : (ch_C g A R).2.2.2.2.2[60]? = some (.inl (.int, 6)) := rfl
theorem shn_60 {g : ch_G} {A R : Nat} (_ : ck_Cx g A R) : 6 < 2147483648 := by decide
theorem sh_61 {g : ch_G} {A R : Nat} : (ch_C g A R).2.2.2.2.2[61]? = some (.inl (.int, 6)) := rfl
theorem shn_61 {g : ch_G} {A R : Nat} (_ : ck_Cx g A R) : 6 < 2147483648 := by decide
theorem sh_62 {g : ch_G} {A R : Nat} : (ch_C g A R).2.2.2.2.2[62]? = some (.inl (.int, 144)) := rfl
theorem shn_62 {g : ch_G} {A R : Nat} (_ : ck_Cx g A R) : 144 < 2147483648 := by decide
theorem sh_63 {g : ch_G} {A R : Nat} : (ch_C g A R).2.2.2.2.2[63]? = some (.inl (.int, 144)) := rfl
theorem shn_63 {g : ch_G} {A R : Nat} (_ : ck_Cx g A R) : 144 < 2147483648 := by decide
theorem sh_64 {g : ch_G} {A R : Nat} : (ch_C g A R).2.2.2.2.2[64]? = some (.inr (1, [.inr (.inr 3), .inr (.inr 8), .inr (.inr 51), .inr (.inr 65), .inr (.inr 66)])) := rfl
theorem sh_65 {g : ch_G} {A R : Nat} : (ch_C g A R).2.2.2.2.2[65]? = some (.inl (.int, 1830)) := rfl
theorem shn_65 {g : ch_G} {A R : Nat} (_ : ck_Cx g A R) : 1830 < 2147483648 := by decide
theorem sh_66 {g : ch_G} {A R : Nat} : (ch_C g A R).2.2.2.2.2[66]? = some (.inl (.int, 30)) := rfl
theorem shn_66 {g : ch_G} {A R : Nat} (_ : ck_Cx g A R) : 30 < 2147483648 := by decide
theorem sh_67 {g : ch_G} {A R : Nat} : (ch_C g A R).2.2.2.2.2[67]? = some (.inr (6, [.inr (.inr 68), .inl (), .inl (), .inl (), .inl (), .inl (), .inl (), .inl (), .inl (), .inl (), .inl (), .inl (), .inl (), .inl (), .inl (), .inr (.inr 69), .inl ()])) := rfl
theorem sh_68 {g : ch_G} {A R : Nat} : (ch_C g A R).2.2.2.2.2[68]? = some (.inl (.int, 300)) := rfl
theorem shn_68 {g : ch_G} {A R : Nat} (_ : ck_Cx g A R) : 300 < 2147483648 := by decide
theorem sh_69 {g : ch_G} {A R : Nat} : (ch_C g A R).2.2.2.2.2[69]? = some (.inl (.int, 64)) := rfl
theorem shn_69 {g : ch_G} {A R : Nat} (_ : ck_Cx g A R) : 64 < 2147483648 := by decide
theorem sh_70 {g : ch_G} {A R : Nat} : (ch_C g A R).2.2.2.2.2[70]? = some (.inr (7, [.inr (.inr 3), .inr (.inr 10), .inr (.inr 51), .inr (.inr 71), .inl ()])) := rfl
theorem sh_71 {g : ch_G} {A R : Nat} : (ch_C g A R).2.2.2.2.2[71]? = some (.inl (.int, 64)) := rfl
theorem shn_71 {g : ch_G} {A R : Nat} (_ : ck_Cx g A R) : 64 < 2147483648 := by decide
theorem sh_72 {g : ch_G} {A R : Nat} : (ch_C g A R).2.2.2.2.2[72]? = some (.inr (0, [.inr (.inr 3), .inr (.inr 10), .inr (.inr 15), .inr (.inr 70), .inr (.inr 73), .inr (.inr 74), .inr (.inl ()), .inl (), .inr (.inr 75)])) := rfl
theorem sh_73 {g : ch_G} {A R : Nat} : (ch_C g A R).2.2.2.2.2[73]? = some (.inl (.int, 3)) := rfl
theorem shn_73 {g : ch_G} {A R : Nat} (_ : ck_Cx g A R) : 3 < 2147483648 := by decide
theorem sh_74 {g : ch_G} {A R : Nat} : (ch_C g A R).2.2.2.2.2[74]? = some (.inl (.long, 12)) := rfl
theorem shn_74 {g : ch_G} {A R : Nat} (_ : ck_Cx g A R) : 12 < 2147483648 := by decide
theorem sh_75 {g : ch_G} {A R : Nat} : (ch_C g A R).2.2.2.2.2[75]? = some (.inl (.int, 12)) := rfl
theorem shn_75 {g : ch_G} {A R : Nat} (_ : ck_Cx g A R) : 12 < 2147483648 := by decide
theorem sh_76 {g : ch_G} {A R : Nat} : (ch_C g A R).2.2.2.2.2[76]? = some (.inr (12, [.inl (), .inl (), .inl (), .inr (.inr 77), .inr (.inr 78), .inr (.inr 79), .inr (.inr 80), .inr (.inr 81), .inr (.inr 82), .inr (.inr 83), .inr (.inr 84), .inr (.inr 85), .inr (.inr 86), .inr (.inr 87), .inr (.inr 88), .inr (.inr 89), .inl (), .inl (), .inl (), .inl (), .inl (), .inl (), .inl (), .inr (.inl ()), .inl (), .inl (), .inl (), .inl (), .inr (.inr 90), .inl (), .inl (), .inl (), .inr (.inr 91), .inr (.inr 92), .inr (.inr 93), .inr (.inr 94), .inr (.inr 95), .inr (.inr 96)])) := rfl
theorem sh_77 {g : ch_G} {A R : Nat} : (ch_C g A R).2.2.2.2.2[77]? = some (.inl (.int, 1430)) := rfl
theorem shn_77 {g : ch_G} {A R : Nat} (_ : ck_Cx g A R) : 1430 < 2147483648 := by decide
theorem sh_78 {g : ch_G} {A R : Nat} : (ch_C g A R).2.2.2.2.2[78]? = some (.inl (.int, 1430)) := rfl
theorem shn_78 {g : ch_G} {A R : Nat} (_ : ck_Cx g A R) : 1430 < 2147483648 := by decide
theorem sh_79 {g : ch_G} {A R : Nat} : (ch_C g A R).2.2.2.2.2[79]? = some (.inl (.int, 3200)) := rfl
theorem shn_79 {g : ch_G} {A R : Nat} (_ : ck_Cx g A R) : 3200 < 2147483648 := by decide
theorem sh_80 {g : ch_G} {A R : Nat} : (ch_C g A R).2.2.2.2.2[80]? = some (.inl (.int, 70000)) := rfl
theorem shn_80 {g : ch_G} {A R : Nat} (_ : ck_Cx g A R) : 70000 < 2147483648 := by decide
theorem sh_81 {g : ch_G} {A R : Nat} : (ch_C g A R).2.2.2.2.2[81]? = some (.inl (.int, 70000)) := rfl
theorem shn_81 {g : ch_G} {A R : Nat} (_ : ck_Cx g A R) : 70000 < 2147483648 := by decide
theorem sh_82 {g : ch_G} {A R : Nat} : (ch_C g A R).2.2.2.2.2[82]? = some (.inl (.boolean, 70000)) := rfl
theorem shn_82 {g : ch_G} {A R : Nat} (_ : ck_Cx g A R) : 70000 < 2147483648 := by decide
theorem sh_83 {g : ch_G} {A R : Nat} : (ch_C g A R).2.2.2.2.2[83]? = some (.inl (.int, 6)) := rfl
theorem shn_83 {g : ch_G} {A R : Nat} (_ : ck_Cx g A R) : 6 < 2147483648 := by decide
theorem sh_84 {g : ch_G} {A R : Nat} : (ch_C g A R).2.2.2.2.2[84]? = some (.inl (.int, 6)) := rfl
theorem shn_84 {g : ch_G} {A R : Nat} (_ : ck_Cx g A R) : 6 < 2147483648 := by decide
theorem sh_85 {g : ch_G} {A R : Nat} : (ch_C g A R).2.2.2.2.2[85]? = some (.inl (.int, 144)) := rfl
theorem shn_85 {g : ch_G} {A R : Nat} (_ : ck_Cx g A R) : 144 < 2147483648 := by decide
theorem sh_86 {g : ch_G} {A R : Nat} : (ch_C g A R).2.2.2.2.2[86]? = some (.inl (.int, 144)) := rfl
theorem shn_86 {g : ch_G} {A R : Nat} (_ : ck_Cx g A R) : 144 < 2147483648 := by decide
theorem sh_87 {g : ch_G} {A R : Nat} : (ch_C g A R).2.2.2.2.2[87]? = some (.inl (.int, 24)) := rfl
theorem shn_87 {g : ch_G} {A R : Nat} (_ : ck_Cx g A R) : 24 < 2147483648 := by decide
theorem sh_88 {g : ch_G} {A R : Nat} : (ch_C g A R).2.2.2.2.2[88]? = some (.inl (.int, 2000)) := rfl
theorem shn_88 {g : ch_G} {A R : Nat} (_ : ck_Cx g A R) : 2000 < 2147483648 := by decide
theorem sh_89 {g : ch_G} {A R : Nat} : (ch_C g A R).2.2.2.2.2[89]? = some (.inl (.int, 300)) := rfl
theorem shn_89 {g : ch_G} {A R : Nat} (_ : ck_Cx g A R) : 300 < 2147483648 := by decide
theorem sh_90 {g : ch_G} {A R : Nat} : (ch_C g A R).2.2.2.2.2[90]? = some (.inl (.int, 160)) := rfl
theorem shn_90 {g : ch_G} {A R : Nat} (_ : ck_Cx g A R) : 160 < 2147483648 := by decide
theorem sh_91 {g : ch_G} {A R : Nat} : (ch_C g A R).2.2.2.2.2[91]? = some (.inl (.int, 9)) := rfl
theorem shn_91 {g : ch_G} {A R : Nat} (_ : ck_Cx g A R) : 9 < 2147483648 := by decide
theorem sh_92 {g : ch_G} {A R : Nat} : (ch_C g A R).2.2.2.2.2[92]? = some (.inl (.long, 330)) := rfl
theorem shn_92 {g : ch_G} {A R : Nat} (_ : ck_Cx g A R) : 330 < 2147483648 := by decide
theorem sh_93 {g : ch_G} {A R : Nat} : (ch_C g A R).2.2.2.2.2[93]? = some (.inl (.boolean, 330)) := rfl
theorem shn_93 {g : ch_G} {A R : Nat} (_ : ck_Cx g A R) : 330 < 2147483648 := by decide
theorem sh_94 {g : ch_G} {A R : Nat} : (ch_C g A R).2.2.2.2.2[94]? = some (.inl (.int, 3)) := rfl
theorem shn_94 {g : ch_G} {A R : Nat} (_ : ck_Cx g A R) : 3 < 2147483648 := by decide
theorem sh_95 {g : ch_G} {A R : Nat} : (ch_C g A R).2.2.2.2.2[95]? = some (.inl (.long, 12)) := rfl
theorem shn_95 {g : ch_G} {A R : Nat} (_ : ck_Cx g A R) : 12 < 2147483648 := by decide
theorem sh_96 {g : ch_G} {A R : Nat} : (ch_C g A R).2.2.2.2.2[96]? = some (.inl (.int, 12)) := rfl
theorem shn_96 {g : ch_G} {A R : Nat} (_ : ck_Cx g A R) : 12 < 2147483648 := by decide
