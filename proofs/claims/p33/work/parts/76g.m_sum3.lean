/-! ===== the reference's sums, second half ===== -/
theorem rm_nm_e (t x : Int) : rm_nm t x = if ¬ t = 2 then -1 else if x = 1735550329 then 0 else if x = 427120747371 then 1 else if x = 125762622027123 then 2 else if x = 1953854062 then 3 else if x = 418464099429 then 4 else if x = 495740085093 then 5 else if x = 26990 then 6 else if x = 7304564 then 7 else if x = 495672455792 then 8 else -1 := by
  unfold rm_nm
  rw [show ck_Lor (ck_Lshl (ck_Lor (ck_Lshl (ck_Lor (ck_Lshl 103 8) 114) 8) 101) 8) 121 = 1735550329 by decide +kernel, show ck_Lor (ck_Lshl (ck_Lor (ck_Lshl (ck_Lor (ck_Lshl (ck_Lor (ck_Lshl 99 8) 114) 8) 97) 8) 99) 8) 107 = 427120747371 by decide +kernel, show ck_Lor (ck_Lshl (ck_Lor (ck_Lshl (ck_Lor (ck_Lshl (ck_Lor (ck_Lshl (ck_Lor (ck_Lshl 114 8) 97) 8) 100) 8) 105) 8) 117) 8) 115 = 125762622027123 by decide +kernel, show ck_Lor (ck_Lshl (ck_Lor (ck_Lshl (ck_Lor (ck_Lshl 116 8) 117) 8) 114) 8) 110 = 1953854062 by decide +kernel, show ck_Lor (ck_Lshl (ck_Lor (ck_Lshl (ck_Lor (ck_Lshl (ck_Lor (ck_Lshl 97 8) 110) 8) 103) 8) 108) 8) 101 = 418464099429 by decide +kernel, show ck_Lor (ck_Lshl (ck_Lor (ck_Lshl (ck_Lor (ck_Lshl (ck_Lor (ck_Lshl 115 8) 108) 8) 105) 8) 99) 8) 101 = 495740085093 by decide +kernel, show ck_Lor (ck_Lshl (ck_Lor (ck_Lshl 111 8) 117) 8) 116 = 7304564 by decide +kernel, show ck_Lor (ck_Lshl (ck_Lor (ck_Lshl (ck_Lor (ck_Lshl (ck_Lor (ck_Lshl 115 8) 104) 8) 97) 8) 114) 8) 112 = 495672455792 by decide +kernel]
theorem tk_w3 (x : Int) : tk_w x = 3 ↔ 0 ≤ rm_nm 2 x := by
  by_cases h : x = 1735550329 ∨ x = 427120747371 ∨ x = 125762622027123 ∨ x = 1953854062 ∨ x = 418464099429 ∨ x = 495740085093 ∨ x = 26990 ∨ x = 7304564 ∨ x = 495672455792
  · have e : 0 ≤ rm_nm 2 x := by
      rw [rm_nm_e, if_neg (by decide)]
      rcases h with h | h | h | h | h | h | h | h | h <;> subst h <;> decide
    have e2 : tk_w x = 3 := by
      unfold tk_w
      rw [if_neg (by omega), if_neg (by omega), if_neg (by omega), if_neg (by omega), if_neg (by omega), if_pos h]
    exact ⟨fun _ => e, fun _ => e2⟩
  · have e : ¬ 0 ≤ rm_nm 2 x := by
      rw [rm_nm_e, if_neg (by decide), if_neg (by omega), if_neg (by omega), if_neg (by omega), if_neg (by omega), if_neg (by omega), if_neg (by omega), if_neg (by omega), if_neg (by omega), if_neg (by omega)]
      decide
    have e2 : ¬ tk_w x = 3 := by
      unfold tk_w
      rw [if_neg h]
      repeat' split
      all_goals omega
    exact ⟨fun z => absurd z e2, fun z => absurd z e⟩
theorem tk_w5 (x : Int) : (tk_w x = 4 ↔ x = 6909547) ∧ (tk_w x = 5 ↔ x = 1650553445) ∧ (tk_w x = 6 ↔ x = 28530) ∧ (tk_w x = 7 ↔ x = 6385252) ∧ (tk_w x = 8 ↔ x = 7237492) ∧ (tk_w x = 1 ∨ (3 ≤ tk_w x ∧ tk_w x ≤ 8)) := by
  unfold tk_w
  by_cases h0 : x = 6909547
  · subst h0; decide
  · by_cases h1 : x = 1650553445
    · subst h1; decide
    · by_cases h2 : x = 28530
      · subst h2; decide
      · by_cases h3 : x = 6385252
        · subst h3; decide
        · by_cases h4 : x = 7237492
          · subst h4; decide
          · rw [if_neg h0, if_neg h1, if_neg h2, if_neg h3, if_neg h4]
            split <;> omega
theorem tk_iw (t x : Int) : (tk_k t x = 3 ↔ t = 2 ∧ 0 ≤ rm_nm t x) ∧ (tk_k t x = 4 ↔ t = 2 ∧ x = 6909547) ∧ (tk_k t x = 5 ↔ t = 2 ∧ x = 1650553445) ∧ (tk_k t x = 6 ↔ t = 2 ∧ x = 28530) ∧ (tk_k t x = 7 ↔ t = 2 ∧ x = 6385252) ∧ (tk_k t x = 8 ↔ t = 2 ∧ x = 7237492) := by
  by_cases h : t = 2
  · subst h
    have e : tk_k 2 x = tk_w x := rfl
    have a := tk_w5 x
    have c := tk_w3 x
    rw [e]
    exact ⟨⟨fun z => ⟨rfl, c.mp z⟩, fun z => c.mpr z.2⟩, ⟨fun z => ⟨rfl, a.1.mp z⟩, fun z => a.1.mpr z.2⟩, ⟨fun z => ⟨rfl, a.2.1.mp z⟩, fun z => a.2.1.mpr z.2⟩, ⟨fun z => ⟨rfl, a.2.2.1.mp z⟩, fun z => a.2.2.1.mpr z.2⟩, ⟨fun z => ⟨rfl, a.2.2.2.1.mp z⟩, fun z => a.2.2.2.1.mpr z.2⟩, ⟨fun z => ⟨rfl, a.2.2.2.2.1.mp z⟩, fun z => a.2.2.2.2.1.mpr z.2⟩⟩
  · have n : ¬ (3 ≤ tk_k t x ∧ tk_k t x ≤ 8) := by
      unfold tk_k
      rw [if_neg h]
      repeat' split
      all_goals omega
    exact ⟨⟨fun z => by omega, fun z => absurd z.1 h⟩, ⟨fun z => by omega, fun z => absurd z.1 h⟩, ⟨fun z => by omega, fun z => absurd z.1 h⟩, ⟨fun z => by omega, fun z => absurd z.1 h⟩, ⟨fun z => by omega, fun z => absurd z.1 h⟩, ⟨fun z => by omega, fun z => absurd z.1 h⟩⟩
theorem tk_is (t x : Int) : (tk_k t x = 0 ↔ t = 0) ∧ (tk_k t x = 2 ↔ t = 1) ∧ (tk_k t x = 9 ↔ t = 60) ∧ (tk_k t x = 10 ↔ t = 4) ∧ (tk_k t x = 11 ↔ t = 62) ∧ (tk_k t x = 12 ↔ t = 5) ∧ (tk_k t x = 13 ↔ t = 61) ∧ (tk_k t x = 14 ↔ t = 35) ∧ (tk_k t x = 15 ↔ t = 43) ∧ (tk_k t x = 16 ↔ t = 45) ∧ (tk_k t x = 17 ↔ t = 42) ∧ (tk_k t x = 18 ↔ t = 47) ∧ (tk_k t x = 19 ↔ t = 40) ∧ (tk_k t x = 20 ↔ t = 41) ∧ (tk_k t x = 21 ↔ t = 59) := by
  have a := (tk_w5 x).2.2.2.2.2
  by_cases h : t = 2
  · subst h
    rw [show tk_k 2 x = tk_w x from rfl]
    exact ⟨⟨fun z => (show False by omega).elim, fun z => absurd z (by decide)⟩, ⟨fun z => (show False by omega).elim, fun z => absurd z (by decide)⟩, ⟨fun z => (show False by omega).elim, fun z => absurd z (by decide)⟩, ⟨fun z => (show False by omega).elim, fun z => absurd z (by decide)⟩, ⟨fun z => (show False by omega).elim, fun z => absurd z (by decide)⟩, ⟨fun z => (show False by omega).elim, fun z => absurd z (by decide)⟩, ⟨fun z => (show False by omega).elim, fun z => absurd z (by decide)⟩, ⟨fun z => (show False by omega).elim, fun z => absurd z (by decide)⟩, ⟨fun z => (show False by omega).elim, fun z => absurd z (by decide)⟩, ⟨fun z => (show False by omega).elim, fun z => absurd z (by decide)⟩, ⟨fun z => (show False by omega).elim, fun z => absurd z (by decide)⟩, ⟨fun z => (show False by omega).elim, fun z => absurd z (by decide)⟩, ⟨fun z => (show False by omega).elim, fun z => absurd z (by decide)⟩, ⟨fun z => (show False by omega).elim, fun z => absurd z (by decide)⟩, ⟨fun z => (show False by omega).elim, fun z => absurd z (by decide)⟩⟩
  · by_cases h0 : t = 0
    · subst h0; rw [show tk_k 0 x = 0 from rfl]; decide
    · by_cases h1 : t = 1
      · subst h1; rw [show tk_k 1 x = 2 from rfl]; decide
      · by_cases h60 : t = 60
        · subst h60; rw [show tk_k 60 x = 9 from rfl]; decide
        · by_cases h4 : t = 4
          · subst h4; rw [show tk_k 4 x = 10 from rfl]; decide
          · by_cases h62 : t = 62
            · subst h62; rw [show tk_k 62 x = 11 from rfl]; decide
            · by_cases h5 : t = 5
              · subst h5; rw [show tk_k 5 x = 12 from rfl]; decide
              · by_cases h61 : t = 61
                · subst h61; rw [show tk_k 61 x = 13 from rfl]; decide
                · by_cases h35 : t = 35
                  · subst h35; rw [show tk_k 35 x = 14 from rfl]; decide
                  · by_cases h43 : t = 43
                    · subst h43; rw [show tk_k 43 x = 15 from rfl]; decide
                    · by_cases h45 : t = 45
                      · subst h45; rw [show tk_k 45 x = 16 from rfl]; decide
                      · by_cases h42 : t = 42
                        · subst h42; rw [show tk_k 42 x = 17 from rfl]; decide
                        · by_cases h47 : t = 47
                          · subst h47; rw [show tk_k 47 x = 18 from rfl]; decide
                          · by_cases h40 : t = 40
                            · subst h40; rw [show tk_k 40 x = 19 from rfl]; decide
                            · by_cases h41 : t = 41
                              · subst h41; rw [show tk_k 41 x = 20 from rfl]; decide
                              · by_cases h59 : t = 59
                                · subst h59; rw [show tk_k 59 x = 21 from rfl]; decide
                                · have e : tk_k t x = 1 := by
                                    unfold tk_k
                                    rw [if_neg h0, if_neg h1, if_neg h, if_neg h60, if_neg h4, if_neg h62, if_neg h5, if_neg h61, if_neg h35, if_neg h43, if_neg h45, if_neg h42, if_neg h47, if_neg h40, if_neg h41, if_neg h59]
                                  rw [e]
                                  exact ⟨⟨fun z => absurd z (by decide), fun z => absurd z h0⟩, ⟨fun z => absurd z (by decide), fun z => absurd z h1⟩, ⟨fun z => absurd z (by decide), fun z => absurd z h60⟩, ⟨fun z => absurd z (by decide), fun z => absurd z h4⟩, ⟨fun z => absurd z (by decide), fun z => absurd z h62⟩, ⟨fun z => absurd z (by decide), fun z => absurd z h5⟩, ⟨fun z => absurd z (by decide), fun z => absurd z h61⟩, ⟨fun z => absurd z (by decide), fun z => absurd z h35⟩, ⟨fun z => absurd z (by decide), fun z => absurd z h43⟩, ⟨fun z => absurd z (by decide), fun z => absurd z h45⟩, ⟨fun z => absurd z (by decide), fun z => absurd z h42⟩, ⟨fun z => absurd z (by decide), fun z => absurd z h47⟩, ⟨fun z => absurd z (by decide), fun z => absurd z h40⟩, ⟨fun z => absurd z (by decide), fun z => absurd z h41⟩, ⟨fun z => absurd z (by decide), fun z => absurd z h59⟩⟩
theorem tk_0 {t x : Int} : tk_k t x = 0 ↔ t = 0 := (tk_is t x).1
theorem tk_2 {t x : Int} : tk_k t x = 2 ↔ t = 1 := (tk_is t x).2.1
theorem tk_9 {t x : Int} : tk_k t x = 9 ↔ t = 60 := (tk_is t x).2.2.1
theorem tk_10 {t x : Int} : tk_k t x = 10 ↔ t = 4 := (tk_is t x).2.2.2.1
theorem tk_11 {t x : Int} : tk_k t x = 11 ↔ t = 62 := (tk_is t x).2.2.2.2.1
theorem tk_12 {t x : Int} : tk_k t x = 12 ↔ t = 5 := (tk_is t x).2.2.2.2.2.1
theorem tk_13 {t x : Int} : tk_k t x = 13 ↔ t = 61 := (tk_is t x).2.2.2.2.2.2.1
theorem tk_14 {t x : Int} : tk_k t x = 14 ↔ t = 35 := (tk_is t x).2.2.2.2.2.2.2.1
theorem tk_15 {t x : Int} : tk_k t x = 15 ↔ t = 43 := (tk_is t x).2.2.2.2.2.2.2.2.1
theorem tk_16 {t x : Int} : tk_k t x = 16 ↔ t = 45 := (tk_is t x).2.2.2.2.2.2.2.2.2.1
theorem tk_17 {t x : Int} : tk_k t x = 17 ↔ t = 42 := (tk_is t x).2.2.2.2.2.2.2.2.2.2.1
theorem tk_18 {t x : Int} : tk_k t x = 18 ↔ t = 47 := (tk_is t x).2.2.2.2.2.2.2.2.2.2.2.1
theorem tk_19 {t x : Int} : tk_k t x = 19 ↔ t = 40 := (tk_is t x).2.2.2.2.2.2.2.2.2.2.2.2.1
theorem tk_20 {t x : Int} : tk_k t x = 20 ↔ t = 41 := (tk_is t x).2.2.2.2.2.2.2.2.2.2.2.2.2.1
theorem tk_21 {t x : Int} : tk_k t x = 21 ↔ t = 59 := (tk_is t x).2.2.2.2.2.2.2.2.2.2.2.2.2.2
theorem tk_3 {t x : Int} : tk_k t x = 3 ↔ t = 2 ∧ 0 ≤ rm_nm t x := (tk_iw t x).1
theorem tk_4 {t x : Int} : tk_k t x = 4 ↔ t = 2 ∧ x = 6909547 := (tk_iw t x).2.1
theorem tk_5 {t x : Int} : tk_k t x = 5 ↔ t = 2 ∧ x = 1650553445 := (tk_iw t x).2.2.1
theorem tk_6 {t x : Int} : tk_k t x = 6 ↔ t = 2 ∧ x = 28530 := (tk_iw t x).2.2.2.1
theorem tk_7 {t x : Int} : tk_k t x = 7 ↔ t = 2 ∧ x = 6385252 := (tk_iw t x).2.2.2.2.1
theorem tk_8 {t x : Int} : tk_k t x = 8 ↔ t = 2 ∧ x = 7237492 := (tk_iw t x).2.2.2.2.2
theorem p_f0 {s : ck_W} {k v : Int} (h : p_cs s k) (h2 : ¬ (k = 2 ∧ 9999 < v)) (h3 : ¬ (¬ s 0 9 = 3 ∧ (k = 19 ∨ k = 8 ∨ k = 16) ∧ 8 ≤ s 0 13)) (h4 : ¬ (s 0 9 = 0 ∧ ¬ k = 0 ∧ 10 ≤ s 0 12)) : p_f s k v 0 := Or.inr (Or.inr (Or.inr (Or.inr ⟨h, h2, h3, h4, rfl⟩)))
theorem p_f1 {s : ck_W} {k v : Int} (h : ¬ p_cs s k) : p_f s k v 1 := Or.inl ⟨h, rfl⟩
theorem p_f2 {s : ck_W} {k v : Int} (h : p_cs s k) (h2 : k = 2 ∧ 9999 < v) : p_f s k v 2 := Or.inr (Or.inl ⟨h, h2, rfl⟩)
theorem p_f3 {s : ck_W} {k v : Int} (h : p_cs s k) (h2 : ¬ (k = 2 ∧ 9999 < v)) (h3 : ¬ s 0 9 = 3 ∧ (k = 19 ∨ k = 8 ∨ k = 16) ∧ 8 ≤ s 0 13) : p_f s k v 3 := Or.inr (Or.inr (Or.inl ⟨h, h2, h3, rfl⟩))
theorem p_U_0 {s : ck_W} {r j : Int} (h4 : ¬ j = 4) (h13 : ¬ j = 13) (h16 : ¬ j = 16) : p_U s r 0 j = s 0 j := p_uw_0 h4 h13 h16 _ s
theorem p_U_nn {s : ck_W} {r : Int} (h : 0 ≤ p_U s r 0 16) : 0 ≤ s 0 16 := by
  by_cases q : 0 ≤ s 0 16
  · exact q
  · unfold p_U at h
    rw [show (s 0 16).toNat = 0 by omega, p_uw] at h
    exact h
/-- within a sum -/
def sm (b : Int → Int) (s0 : ck_W) (kk f B cm cl : Int) (L Z : Int → Int) (u : ck_W) : Prop := pl_n (u 90) (u 76 29) ∧ ∃ s p, p_R b s0 p s ∧ tkn b p u ∧
  ((u 76 31 = 0 ∧ (s 0 9 = 2 ∨ (s 0 9 = 1 ∧ ¬ tk_k (u 76 21) (u 76 23) = 8)) ∧ pq kk f B L Z cm cl s u) ∨
   (u 76 31 = 1 ∧ s 0 9 = 3 ∧ pq kk f B L Z cm cl (p_U s 7) u ∧ (u 76 29 ≤ 0 ∨ ¬ u 90 (u 76 29 - 1) = 2)))
theorem S2_one {g : ch_G} {A R : Nat} (hC : ck_Cx g A R) {d : Nat} {w : ck_W} {T X f E N n m o v kk B cm cl p kap : Int} {b L Z : Int → Int} {s0 s : ck_W} {Q : ck_W → Prop} (hT : 0 ≤ T ∧ T ≤ 300) (hX : 0 ≤ X ∧ X ≤ 2400) (hE : 0 ≤ kk ∧ kk ≤ E) (hN : 0 ≤ N) (hn : 0 ≤ n) (hm : 0 ≤ m) (hB : tp b w) (hL : pL B L) (hz : pz T X f E N n m w) (h31 : w 76 31 = 0) (ht : ¬ w 76 21 = 0)
    (ho : (o = 0 ∧ kap = 2 ∧ 0 ≤ v ∧ v ≤ 9999) ∨ (o = 1 ∧ kap = 3 ∧ 0 ≤ v ∧ v ≤ 8)) (hR : p_R b s0 p s) (h9 : s 0 9 = 1 ∨ s 0 9 = 2) (hl : lx b p kap v (w 76 20) (w 76 19)) (hQ : pq kk f B L Z cm cl s w) (hP : pl_n (w 90) (w 76 29))
    (h : ∀ w', pr w w' → pz T X f E N n m w' → w 76 20 < w' 76 20 → sm b s0 kk f B cm cl L Z w' → Q w') : ck_CN (ch_C g A R) (d + 3) mX12_emit [.inr (.inr 76), .inl o, .inl v] w (fun w1 => ck_CN (ch_C g A R) (d + 3) mX12_nextToken [.inr (.inr 76)] w1 (fun w2 => ck_CN (ch_C g A R) (d + 3) mX12_whole [.inr (.inr 76)] w2 (fun w3 => Q w3))) := by
  obtain ⟨h1, h2, h3, h4, h5, h6, h7, h8, h9', h10, h11⟩ := id hz
  refine S_X12_emit hC (by omega) (by omega) (fun u b1 b2 b3 b4 b5 => ⟨rfl, ?_⟩)
  have g90 : u 90 = w 90 := b2 90 (by decide) (by decide)
  have b0 := pl_b0 (w 90) (w 76 29).toNat
  have st : tx_st (u 79) (X + 50) f (u 76 26 - f).toNat = some (n + 1 + pl_b (w 90) (w 76 29).toNat + 0, m) := by
    have te := tx_emit (t := w 79) (c := X + 50) (s := f) (wr := w 76 26) (o := o) (v := v) h5.2
    rw [b5, b4, h4.2, te, h11, h31]
    show tx_eff o v (n + pl_b (w 90) (w 76 29).toNat + 0, m) = _
    unfold tx_eff
    rcases ho with ⟨e, -, e1, e2⟩ | ⟨e, -, e1, e2⟩
    · subst e
      rw [if_pos rfl, if_pos ⟨e1, e2⟩]
      dsimp only
      rw [show n + pl_b (w 90) (w 76 29).toNat + 0 + 1 = n + 1 + pl_b (w 90) (w 76 29).toNat + 0 by omega]
    · subst e
      rw [if_neg (by decide), if_pos rfl, if_pos ⟨e1, e2⟩]
      dsimp only
      rw [show n + pl_b (w 90) (w 76 29).toNat + 0 + 1 = n + 1 + pl_b (w 90) (w 76 29).toNat + 0 by omega]
  have u1 : pz1 T X f E N (n + 1) m u := by
    refine ⟨?_, ?_, ?_, ?_, ?_, ?_, ?_, ?_, ?_, ?_⟩
    · rw [b3 19 (by decide), b3 20 (by decide)]; omega
    · rw [b3 22 (by decide)]; exact h3
    · rw [b3 16 (by decide), b3 24 (by decide)]; exact h4
    · rw [b4]; omega
    · rw [b3 29 (by decide)]; exact h6
    · rw [b4, b3 29 (by decide), b3 20 (by decide)]; omega
    · rw [b3 29 (by decide), g90]; exact h8
    · rw [b3 29 (by decide), b3 30 (by decide), g90]; exact h9'
    · rw [b3 31 (by decide)]; exact h10
    · rw [b3 29 (by decide), b3 31 (by decide), g90, h31]; exact st
  -- the machine's step
  have cs : p_cs s kap := by unfold p_cs; omega
  have pf : p_f s kap v 0 := p_f0 cs (by omega) (by omega) (by omega)
  have R1 := p_R_go hR hl pf (by omega)
  have et : p_t s kap v = ck_up (p_emit s (scv o v)) 0 9 3 := by
    unfold p_t p_and
    rw [if_neg (by omega), if_neg (by omega)]
    rcases ho with ⟨e, e1, -⟩ | ⟨e, e1, -⟩
    · rw [if_pos e1, e]; rfl
    · rw [if_neg (by omega), if_pos e1, e]; rfl
  have Q1 : pq kk f B L Z cm cl (p_t s kap v) u := by
    rw [et]
    obtain ⟨q1, q2, q3⟩ := hQ
    refine ⟨?_, ?_, pqr_s (pqr_emit (o := o) (v := v) q3 (by omega) h5.2 (b3 24 (by decide)) b4 (b3 29 (by decide)) b5 g90 rfl (by omega)) (ck_up_nj (by decide)) (ck_up_nj (by decide)) (ck_up_ne (by decide)) (ck_up_ne (by decide))⟩
    · rw [ck_up_nj (by decide), ck_up_nj (by decide), ck_up_nj (by decide), p_emit_0 (by decide), p_emit_0 (by decide), p_emit_0 (by decide)]; exact q1
    · rw [ck_up_nj (by decide), ck_up_nj (by decide), p_emit_0 (by decide), p_emit_0 (by decide), b3 30 (by decide), b3 29 (by decide), g90]; exact q2
  have t9 : p_t s kap v 0 9 = 3 := by rw [et, ck_up_eq]
  generalize p_t s kap v = s1 at *
  refine S2_next hC hT (tp_pr hB b1) u1 (fun u2 c1 c2 c3 c4 c5 c6 => ⟨rfl, ?_⟩)
  obtain ⟨k1, k2, k3, k4, k5, k6, k7, k8, k9, k10, k11⟩ := id c4
  have e31 : u2 76 31 = 0 := by rw [c2 31 (by omega), b3 31 (by decide)]; exact h31
  have z3 : pz T X f E N n m (ck_up u2 76 31 1) := by
    refine ⟨?_, ?_, ?_, ?_, ?_, ?_, ?_, ?_, ?_, ?_, ?_⟩
    · rw [ck_up_nj (by decide), ck_up_nj (by decide)]; exact k1
    · rw [ck_up_nj (by decide), ck_up_nj (by decide), ck_up_nj (by decide)]; exact k2
    · rw [ck_up_nj (by decide)]; exact k3
    · rw [ck_up_nj (by decide), ck_up_nj (by decide)]; exact k4
    · rw [ck_up_nj (by decide)]; exact k5
    · rw [ck_up_nj (by decide)]; exact k6
    · rw [ck_up_nj (by decide), ck_up_nj (by decide), ck_up_nj (by decide)]; exact k7
    · rw [ck_up_nj (by decide), ck_up_ne (by decide)]; exact k8
    · rw [ck_up_nj (by decide), ck_up_nj (by decide), ck_up_ne (by decide)]; exact k9
    · exact Or.inr ck_up_eq
    · rw [ck_up_nj (i := 31) (j := 26) (by decide), ck_up_nj (i := 31) (j := 29) (by decide), ck_up_eq, ck_up_ne (by decide), ck_up_ne (by decide), k11, e31]
      rw [show n + 1 + pl_b (u2 90) (u2 76 29).toNat + 0 = n + pl_b (u2 90) (u2 76 29).toNat + 1 by omega]
  have Q2 : pq kk f B L Z cm cl s1 (ck_up u2 76 31 1) := pq_u Q1 (by rw [ck_up_nj (by decide), c2 24 (by omega)]) (by rw [ck_up_nj (by decide), c2 26 (by omega)]) (by rw [ck_up_nj (by decide), c2 29 (by omega)]) (by rw [ck_up_nj (by decide), c2 30 (by omega)]) (by rw [ck_up_ne (by decide), c3 79 (by decide)]) (by rw [ck_up_ne (by decide), c3 90 (by decide)])
  have n29 : (ck_up u2 76 31 1) 76 29 = w 76 29 := by rw [ck_up_nj (by decide), c2 29 (by omega), b3 29 (by decide)]
  have n90 : (ck_up u2 76 31 1) 90 = w 90 := by rw [ck_up_ne (by decide), c3 90 (by decide), g90]
  have pb := pz_piled z3 hN
  refine e_X12_whole hC (L2_X12_whole hC hT hX hE hN hn hL 30 (by omega) z3 ck_up_eq Q2 (fun w' d1 d2 d3 d4 d5 d6 d7 d8 => ⟨rfl, ?_⟩))
  refine h w' (pr_tr (pr_tr (pr_tr b1 c1) (pr_up (by omega) (by omega) (by omega))) d1) d3 ?_ ⟨?_, s1, w 76 19, R1, ?_, Or.inr ⟨d4, t9, d7, d8⟩⟩
  · rw [d2 20 (by omega), ck_up_nj (by decide)]
    rw [b3 20 (by decide)] at c5
    exact c5
  · rw [d5, n90]
    exact fun k a c => hP k a (by omega)
  · rw [b3 19 (by decide)] at c6
    refine tkn_c c6 (fun j j0 j1 => ?_)
    rw [d2 j (by omega), ck_up_nj (by omega)]
theorem S2_opn {g : ch_G} {A R : Nat} (hC : ck_Cx g A R) {d : Nat} {w : ck_W} {T X f E N n m o v kk B cm cl p kap : Int} {b L Z : Int → Int} {s0 s : ck_W} {Q : ck_W → Prop} (hT : 0 ≤ T ∧ T ≤ 300) (hX : 0 ≤ X ∧ X ≤ 2400) (hE : 0 ≤ kk ∧ kk ≤ E) (hN : 0 ≤ N) (hn : 0 ≤ n) (hm : 0 ≤ m) (hB : tp b w) (hL : pL B L) (hz : pz T X f E N n m w) (h31 : w 76 31 = 0) (ht : ¬ w 76 21 = 0) (h30 : ¬ w 76 30 = 8)
    (ho : (o = 2 ∧ kap = 16) ∨ (o = 40 ∧ kap = 19)) (hR : p_R b s0 p s) (s9 : s 0 9 = 1 ∨ s 0 9 = 2) (hl : lx b p kap v (w 76 20) (w 76 19)) (hQ : pq kk f B L Z cm cl s w) (hP : pl_n (w 90) (w 76 29))
    (h : ∀ w', pr w w' → pz T X f E N n m w' → w 76 20 < w' 76 20 → sm b s0 kk f B cm cl L Z w' → Q w') : ck_i (w 76 30 + 1) ∧ (ck_CN (ch_C g A R) (d + 3) mX12_push [.inr (.inr 76), .inl o] (ck_up w 76 30 (w 76 30 + 1)) (fun w8 => ck_CN (ch_C g A R) (d + 3) mX12_nextToken [.inr (.inr 76)] w8 (fun w9 => Q w9))) := by
  obtain ⟨h1, h2, h3, h4, h5, h6, h7, h8, h9, h10, h11⟩ := id hz
  have pb := pz_piled hz hN
  have s13 := hQ.2.1.1
  have op0 := pl_op0 (w 90) (w 76 29).toNat
  refine ⟨by constructor <;> omega, e_X12_push hC ?_⟩
  rw [ck_up_nj (i := 30) (j := 29) (by decide)]
  refine ⟨by omega, by constructor <;> omega, ⟨rfl, ?_⟩⟩
  have f' : ∀ j, j ≠ 29 → j ≠ 30 → (ck_up (ck_up (ck_up w 76 30 (w 76 30 + 1)) 90 (w 76 29) o) 76 29 (w 76 29 + 1)) 76 j = w 76 j := fun j x y => by rw [ck_up_nj x, ck_up_ne (by decide), ck_up_nj y]
  have f29 : (ck_up (ck_up (ck_up w 76 30 (w 76 30 + 1)) 90 (w 76 29) o) 76 29 (w 76 29 + 1)) 76 29 = w 76 29 + 1 := ck_up_eq
  have f30 : (ck_up (ck_up (ck_up w 76 30 (w 76 30 + 1)) 90 (w 76 29) o) 76 29 (w 76 29 + 1)) 76 30 = w 76 30 + 1 := by rw [ck_up_nj (by decide), ck_up_ne (by decide), ck_up_eq]
  have f90' : (ck_up (ck_up (ck_up w 76 30 (w 76 30 + 1)) 90 (w 76 29) o) 76 29 (w 76 29 + 1)) 90 = rm_u (w 90) (w 76 29) o := by rw [ck_up_ne (by decide), ck_up_row, ck_up_ne (by decide)]
  have f90 : (ck_up (ck_up (ck_up w 76 30 (w 76 30 + 1)) 90 (w 76 29) o) 76 29 (w 76 29 + 1)) 90 = rm_u (w 90) (((w 76 29).toNat : Nat) : Int) o := by rw [f90', show (((w 76 29).toNat : Nat) : Int) = w 76 29 by omega]
  have f79 : (ck_up (ck_up (ck_up w 76 30 (w 76 30 + 1)) 90 (w 76 29) o) 76 29 (w 76 29 + 1)) 79 = w 79 := rfl
  have p1 : pr w (ck_up (ck_up (ck_up w 76 30 (w 76 30 + 1)) 90 (w 76 29) o) 76 29 (w 76 29 + 1)) := ⟨fun k x y z => by rw [ck_up_ne x, ck_up_ne z, ck_up_ne x], fun j hj => f' j (by omega) (by omega), fun j _ => by rw [f79], by rw [f' 26 (by decide) (by decide)]; omega, fun q => by rw [f' 22 (by decide) (by decide)]; exact q⟩
  generalize (ck_up (ck_up (ck_up w 76 30 (w 76 30 + 1)) 90 (w 76 29) o) 76 29 (w 76 29 + 1)) = u at *
  have e1 : (w 76 29 + 1).toNat = (w 76 29).toNat + 1 := by omega
  have cc := pl_c (p := w 90) (p' := rm_u (w 90) (((w 76 29).toNat : Nat) : Int) o) (n := (w 76 29).toNat) (fun k hk => rm_u_ne (by omega))
  have ca := pl_pac (p := w 90) (p' := rm_u (w 90) (((w 76 29).toNat : Nat) : Int) o) (n := (w 76 29).toNat) (fun k hk => rm_u_ne (by omega))
  -- the machine's step
  have pf : p_f s kap v 0 := p_f0 (by unfold p_cs; omega) (by omega) (by omega) (by omega)
  have R1 := p_R_go hR hl pf (by omega)
  have et : p_t s kap v = p_opn (p_push s (pcv o)) kap := by
    unfold p_t p_and
    rw [if_neg (by omega), if_neg (by omega), if_neg (by omega), if_neg (by omega)]
    rcases ho with ⟨e, e1⟩ | ⟨e, e1⟩
    · rw [if_pos e1, e]; rfl
    · rw [if_neg (by omega), e, e1]; rfl
  have o0 : ∀ j, ¬ j = 9 → ¬ j = 13 → ¬ j = 14 → ¬ j = 16 → p_opn (p_push s (pcv o)) kap 0 j = s 0 j := fun j x y z z2 => by
    unfold p_opn
    rw [ck_up_nj x]
    split
    · rw [ck_up_nj z, ck_up_nj y, p_push_0 z2]
    · rw [ck_up_nj y, p_push_0 z2]
  have o16 : p_opn (p_push s (pcv o)) kap 0 16 = p_push s (pcv o) 0 16 := by
    unfold p_opn
    rw [ck_up_nj (by decide)]
    split
    · rw [ck_up_nj (by decide), ck_up_nj (by decide)]
    · rw [ck_up_nj (by decide)]
  have ok : ∀ k, ¬ k = 0 → p_opn (p_push s (pcv o)) kap k = p_push s (pcv o) k := fun k x => by
    unfold p_opn
    rw [ck_up_ne x]
    split
    · rw [ck_up_ne x, ck_up_ne x]
    · rw [ck_up_ne x]
  have o4 : p_opn (p_push s (pcv o)) kap 0 4 = p_push s (pcv o) 0 4 := by rw [o0 4 (by decide) (by decide) (by decide) (by decide), p_push_0 (by decide)]
  have o13 : p_opn (p_push s (pcv o)) kap 0 13 = s 0 13 + 1 := by
    unfold p_opn
    rw [ck_up_nj (by decide)]
    split
    · rw [ck_up_nj (by decide), ck_up_eq, p_push_0 (by decide)]
    · rw [ck_up_eq, p_push_0 (by decide)]
  have o14 : p_opn (p_push s (pcv o)) kap 0 14 = s 0 14 + (if o = 40 then 1 else 0) := by
    unfold p_opn
    rw [ck_up_nj (by decide)]
    rcases ho with ⟨e, e1⟩ | ⟨e, e1⟩
    · rw [if_neg (by omega), if_neg (by omega), ck_up_nj (by decide), p_push_0 (by decide)]; omega
    · rw [if_pos e1, if_pos e, ck_up_eq, p_push_0 (by decide)]
  have o9 : p_opn (p_push s (pcv o)) kap 0 9 = 2 := by
    unfold p_opn
    rw [ck_up_eq, if_neg (by omega)]
  have Q1 : pq kk f B L Z cm cl (p_t s kap v) u := by
    rw [et]
    obtain ⟨q1, q2, q3⟩ := hQ
    refine ⟨?_, ⟨?_, ?_⟩, pqr_s (pqr_push (o := o) q3 hL.1.1 h6 (by have := hL.1; omega) (f' 24 (by decide) (by decide)) (f' 26 (by decide) (by decide)) f29 f79 f90' rfl) o4 o16 (ok 1 (by decide)) (ok 2 (by decide))⟩
    · rw [o0 10 (by decide) (by decide) (by decide) (by decide), o0 11 (by decide) (by decide) (by decide) (by decide), o0 12 (by decide) (by decide) (by decide) (by decide)]; exact q1
    · rw [o13, f30, q2.1]
    · rw [o14, f29, f90, e1, pl_pa, ca, rm_u_eq, q2.2]
  have t9 : p_t s kap v 0 9 = 2 := by rw [et]; exact o9
  have P1 : pl_n (u 90) (u 76 29) := by
    rw [f90', f29]
    intro k k0 k1 k2
    by_cases x : k + 1 = w 76 29
    · rw [x, rm_u_eq]; omega
    · rw [rm_u_ne (by omega)] at k2 ⊢
      exact hP k k0 (by omega) k2
  generalize p_t s kap v = s1 at *
  refine S2_next hC (T := T) (X := X) (s := f) (E := E) (N := N) (n := n) (m := m) hT (tp_pr hB p1) ⟨?_, ?_, ?_, ?_, ?_, ?_, ?_, ?_, ?_, ?_⟩ (fun w' c1 c2 c3 c4 c5 c6 => ⟨rfl, h w' (pr_tr p1 c1) c4 (by rw [f' 20 (by decide) (by decide)] at c5; exact c5) ⟨?_, s1, w 76 19, R1, ?_, Or.inl ⟨?_, Or.inl t9, ?_⟩⟩⟩)
  · rw [f' 19 (by decide) (by decide), f' 20 (by decide) (by decide)]; omega
  · rw [f' 22 (by decide) (by decide)]; exact h3
  · rw [f' 16 (by decide) (by decide), f' 24 (by decide) (by decide)]; exact h4
  · rw [f' 26 (by decide) (by decide)]; exact h5
  · rw [f29]; omega
  · rw [f29, f' 26 (by decide) (by decide), f' 20 (by decide) (by decide)]; omega
  · rw [f29, f90, e1]; exact pl_ok_push h8 (by omega) (fun x => by omega) (fun x => by omega)
  · rw [f29, f30, f90, e1, pl_op, rm_u_eq, cc.1, if_pos (by omega)]; omega
  · rw [f' 31 (by decide) (by decide)]; exact h10
  · rw [f29, f79, f90, f' 26 (by decide) (by decide), f' 31 (by decide) (by decide), e1, pl_b, rm_u_eq, cc.2.2, if_neg (by omega), h11]
    rw [show n + (pl_b (w 90) (w 76 29).toNat + 0) + w 76 31 = n + pl_b (w 90) (w 76 29).toNat + w 76 31 by omega]
  · rw [c3 90 (by decide), c2 29 (by omega)]; exact P1
  · rw [f' 19 (by decide) (by decide)] at c6; exact c6
  · rw [c2 31 (by omega), f' 31 (by decide) (by decide)]; exact h31
  · exact pq_u Q1 (c2 24 (by omega)) (c2 26 (by omega)) (c2 29 (by omega)) (c2 30 (by omega)) (c3 79 (by decide)) (c3 90 (by decide))
theorem S2_X12_beginOne {g : ch_G} {A R : Nat} (hC : ck_Cx g A R) {d : Nat} {K : Option ck_V → ck_W → Prop} {w : ck_W} {T X f E N n m kk B cm cl : Int} {b L Z : Int → Int} {s0 : ck_W} (hT : 0 ≤ T ∧ T ≤ 300) (hX : 0 ≤ X ∧ X ≤ 2400) (hE : 0 ≤ kk ∧ kk ≤ E) (hN : 0 ≤ N) (hn : 0 ≤ n) (hm : 0 ≤ m) (hB : tp b w) (hL : pL B L) (hz : pz T X f E N n m w) (h31 : w 76 31 = 0) (hS : sm b s0 kk f B cm cl L Z w)
    (h : ∀ v w', pr w w' → (¬ v = 0 → ∃ z, p_O b 0 s0 v (w' 76 20) z) → (v = 0 → pz T X f E N n m w' ∧ w 76 20 < w' 76 20 ∧ sm b s0 kk f B cm cl L Z w') → K (some (.inl v)) w') : ck_Ex (ch_C g A R) (d + 4) mX12_beginOne [.inr (.inr 76)] w K := by
  obtain ⟨h1, h2, h3, h4, h5, h6, h7, h8, h9, h10, h11⟩ := id hz
  obtain ⟨hP, s, p, hR, ⟨v, hl, hv2, hv3⟩, hD⟩ := hS
  have hD' : (s 0 9 = 2 ∨ (s 0 9 = 1 ∧ ¬ tk_k (w 76 21) (w 76 23) = 8)) ∧ pq kk f B L Z cm cl s w := by
    rcases hD with x | x
    · exact x.2
    · have := x.1; omega
  obtain ⟨s9, hQ⟩ := hD'
  have s13 := hQ.2.1.1
  have pb := pz_piled hz hN
  have nb := rm_nmb (w 76 21) (w 76 23)
  have s9' : s 0 9 = 1 ∨ s 0 9 = 2 := by omega
  obtain ⟨kap, hk⟩ : ∃ kap, kap = tk_k (w 76 21) (w 76 23) := ⟨_, rfl⟩
  rw [← hk] at hl hv2 hv3 s9
  have fail : ∀ g, ¬ g = 0 → p_f s kap v g → K (some (.inl g)) w := fun g hg pf => h g w pr_rf (fun _ => ⟨s, p_R_bad hR hl pf hg⟩) (fun e => absurd e hg)
  have cs : (kap = 2 ∨ kap = 3 ∨ kap = 19 ∨ kap = 16) → p_cs s kap := fun y => Or.inr (Or.inr (Or.inl ⟨by omega, by omega, y⟩))
  have one : ∀ o x, ¬ w 76 21 = 0 → x = v → (o = 0 ∧ kap = 2 ∧ 0 ≤ v ∧ v ≤ 9999) ∨ (o = 1 ∧ kap = 3 ∧ 0 ≤ v ∧ v ≤ 8) → ck_CN (ch_C g A R) (d + 3) mX12_emit [.inr (.inr 76), .inl o, .inl x] w (fun w1 => ck_CN (ch_C g A R) (d + 3) mX12_nextToken [.inr (.inr 76)] w1 (fun w2 => ck_CN (ch_C g A R) (d + 3) mX12_whole [.inr (.inr 76)] w2 (fun w3 => K (some (.inl 0)) w3))) := fun o x ht ex ho => by
    rw [ex]
    exact S2_one hC hT hX hE hN hn hm hB hL hz h31 ht ho hR s9' hl hQ hP (fun w' a b c e => h 0 w' a (fun e => absurd rfl e) (fun _ => ⟨b, c, e⟩))
  have opn : ∀ o, (o = 2 ∧ kap = 16) ∨ (o = 40 ∧ kap = 19) → ¬ w 76 21 = 0 → ¬ w 76 30 = 8 → ck_i (w 76 30 + 1) ∧ (ck_CN (ch_C g A R) (d + 3) mX12_push [.inr (.inr 76), .inl o] (ck_up w 76 30 (w 76 30 + 1)) (fun w8 => ck_CN (ch_C g A R) (d + 3) mX12_nextToken [.inr (.inr 76)] w8 (fun w9 => K (some (.inl 0)) w9))) := fun o ho ht h30 => S2_opn hC hT hX hE hN hn hm hB hL hz h31 ht h30 ho hR s9' hl hQ hP (fun w' a b c e => h 0 w' a (fun e => absurd rfl e) (fun _ => ⟨b, c, e⟩))
  have full : w 76 30 = 8 → (kap = 19 ∨ kap = 16) → K (some (.inl 3)) w := fun y y2 => fail 3 (by decide) (p_f3 (cs (by omega)) (by omega) ⟨by omega, by omega, by omega⟩)
  refine e_X12_beginOne hC ⟨fun z => ⟨fun z2 => ⟨fun z3 => ⟨fun z4 => fail 1 (by decide) (p_f1 ?_), fun z4 => ⟨fun z5 => opn 2 (Or.inl ⟨rfl, hk.trans (tk_16.mpr z4)⟩) (by omega) z5, fun z5 => full z5 (Or.inr (hk.trans (tk_16.mpr z4)))⟩⟩, fun z3 => ⟨fun z5 => opn 40 (Or.inr ⟨rfl, hk.trans (tk_19.mpr z3)⟩) (by omega) z5, fun z5 => full z5 (Or.inl (hk.trans (tk_19.mpr z3)))⟩⟩, fun z2 => ?_⟩, fun z => ⟨fun z2 => ?_, fun z2 => fail 2 (by decide) (p_f2 (cs ?_) ?_)⟩⟩
  · have n2 : ¬ kap = 2 := fun e => z (tk_2.mp (hk.symm.trans e))
    have n3 : ¬ kap = 3 := fun e => by have := (tk_3.mp (hk.symm.trans e)).2; omega
    have n19 : ¬ kap = 19 := fun e => z3 (tk_19.mp (hk.symm.trans e))
    have n16 : ¬ kap = 16 := fun e => z4 (tk_16.mp (hk.symm.trans e))
    clear hv2 hv3 nb
    unfold p_cs
    omega
  · have t2 := nb.2 (by omega)
    have k3 : kap = 3 := hk.trans (tk_3.mpr ⟨t2, by omega⟩)
    have ev := hv3 k3
    exact one 1 _ (by omega) ev.symm (Or.inr ⟨rfl, k3, by omega, by omega⟩)
  · have k2 : kap = 2 := hk.trans (tk_2.mpr z)
    have n2 := hv2 k2
    unfold nr at n2
    exact one 0 _ (by omega) (by omega) (Or.inl ⟨rfl, k2, by omega, by omega⟩)
  · exact Or.inl (hk.trans (tk_2.mpr z))
  · have k2 : kap = 2 := hk.trans (tk_2.mpr z)
    have n2 := hv2 k2
    unfold nr at n2
    exact ⟨k2, by omega⟩
theorem S2_X12_hasParen {g : ch_G} {A R : Nat} (hC : ck_Cx g A R) {d : Nat} {K : Option ck_V → ck_W → Prop} {w : ck_W} (h0 : 0 ≤ w 76 29 ∧ w 76 29 ≤ 160) (k0 : (∀ k, 0 ≤ k → k < w 76 29 → ¬ w 90 k = 40) → K (some (.inl 0)) w) (k1 : (∃ k, 0 ≤ k ∧ k < w 76 29 ∧ w 90 k = 40) → K (some (.inl 1)) w) : ck_Ex (ch_C g A R) d mX12_hasParen [.inr (.inr 76)] w K := by
  have l : ∀ (m : Nat) (a1 : Int), w 76 29 - a1 ≤ m → 0 ≤ a1 → (∀ k, 0 ≤ k → k < a1 → ¬ w 90 k = 40) → ck_At (ch_C g A R) d mX12_hasParen K 2 [some (.inr (.inr 76)), some (.inl a1)] [] w := by
    intro m
    induction m with
    | zero => intro a1 q1 q2 q3; exact r_X12_hasParen_2 hC ⟨fun _ => k0 (fun k x y => q3 k x (by omega)), fun z => absurd (by omega) z⟩
    | succ m ih =>
      intro a1 q1 q2 q3
      refine r_X12_hasParen_2 hC ⟨fun _ => k0 (fun k x y => q3 k x (by omega)), fun z => ⟨by omega, fun y => ⟨by constructor <;> omega, ih _ (by omega) (by omega) (fun k x x2 => ?_)⟩, fun y => k1 ⟨a1, q2, by omega, y⟩⟩⟩
      by_cases e : k = a1
      · rw [e]; exact y
      · exact q3 k x (by omega)
  exact e_X12_hasParen hC (l (w 76 29).toNat 0 (by omega) (by omega) (fun k x y => by omega))
theorem S2_X12_goesOn {g : ch_G} {A R : Nat} (hC : ck_Cx g A R) {d : Nat} {K : Option ck_V → ck_W → Prop} {w : ck_W} (h0 : 0 ≤ w 76 29 ∧ w 76 29 ≤ 160) (k0 : ¬ pz_go w → K (some (.inl 0)) w) (k1 : pz_go w → K (some (.inl 1)) w) : ck_Ex (ch_C g A R) (d + 1) mX12_goesOn [.inr (.inr 76)] w K := by
  unfold pz_go at k1 k0
  refine e_X12_goesOn hC ⟨fun z => k1 (Or.inl z), fun z1 => ⟨fun z => k1 (Or.inr (Or.inl z)), fun z2 => ⟨fun z => k1 (Or.inr (Or.inr (Or.inl z))), fun z3 => ⟨fun z => k1 (Or.inr (Or.inr (Or.inr (Or.inl z)))), fun z4 => ⟨fun z => k0 (fun y => ?_), fun z => ?_⟩⟩⟩⟩⟩
  · rcases y with y | y | y | y | y
    · exact z1 y
    · exact z2 y
    · exact z3 y
    · exact z4 y
    · exact z y.1
  · refine S2_X12_hasParen hC h0 (fun n => ⟨_, rfl, fun _ => ⟨fun _ => k0 (fun y => ?_), fun y => absurd rfl y⟩⟩) (fun e => ⟨_, rfl, fun _ => ⟨fun y => absurd y (by decide), fun _ => k1 (Or.inr (Or.inr (Or.inr (Or.inr ⟨z, e⟩))))⟩⟩)
    rcases y with y | y | y | y | ⟨y, k, y1, y2, y3⟩
    · exact z1 y
    · exact z2 y
    · exact z3 y
    · exact z4 y
    · exact n k y1 y2 y3
