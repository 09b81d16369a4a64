/-! ===== the law's cases, third part ===== -/
theorem J_learnt {g : ch_G} {A R : Nat} (hC : ck_Cx g A R) {w : ck_W} {P : Int → Int → ck_W → Prop} (hJ : cj_J A R w) {a1 a2 : Int} (H : ∀ v v2 w2, cj_J A R w2 → P v v2 w2) : ck_CI (ch_C g A R) 11 mX11_learnt [.inr (.inr 0), .inl a1, .inl a2] w (fun v w1 => ck_CI (ch_C g A R) 11 mX12_learnt [.inr (.inr 76), .inl a1, .inl a2] w1 (fun v2 w2 => P v v2 w2)) := by
  have c := cs_ar hC
  obtain ⟨hI, hN, hK, hZ⟩ := id hJ.1
  obtain ⟨n1, ⟨n2, n3, n4⟩, n5, ⟨n6, n7⟩, n8, n9⟩ := id hN
  have cp := hJ.2.2.1
  have c0 := rm_c0 hJ.2.1.2.2.2.1
  have go : ∀ v w1, cj_JC A R w1 → (∀ k, (27 ≤ k ∧ k ≤ 48) ∨ 76 ≤ k → w1 k = w k) → cj_Ce w w1 → ∃ v0, (some (.inl v) : Option ck_V) = some (.inl v0) ∧ (ck_i v0 → ck_CI (ch_C g A R) 11 mX12_learnt [.inr (.inr 76), .inl a1, .inl a2] w1 (fun v2 w2 => P v0 v2 w2)) := fun v w1 j1 e1 ce => ⟨v, rfl, fun _ => M_learnt (d := 9) hC (rm_I_fr hJ.2.1 (fun k hk => e1 k (by omega))) (fun v2 w2 i2 fr2 _ f77 f78 _ => ⟨v2, rfl, fun _ => H v v2 w2 (cj_ends hC hJ j1 e1 ce i2 fr2 f78 (fun j hj => f77 j (by omega)))⟩)⟩
  exact C_learnt (d := 9) hC n6.1 (fun ok => go 1 (ck_up w 13 a1 a2) (cj_JCs hJ.1 (cw_IV_fr hC hI (fun k hk => by rw [ck_up_ne (by omega)])) (cj_Nm hN (.inl rfl) (.inl rfl) (.inl rfl) (.inl rfl) (.inl ⟨rfl, rfl⟩) (.inl ⟨rfl, rfl, rfl⟩) (.inl ⟨rfl, rfl⟩) (.inl ⟨rfl, rfl, rfl, rfl, rfl⟩) (.inl ⟨rfl, rfl, rfl, rfl, rfl⟩)) (fun k hk => by rw [ck_up_ne (by omega)])) (fun k hk => by rw [ck_up_ne (by omega)]) ⟨rfl, rfl, rfl, rfl, rfl, rfl, rfl, rfl, rfl⟩) (fun no => go 0 w hJ.1 (fun _ _ => rfl) cj_Ce_rf)
theorem J_letter {g : ch_G} {A R : Nat} (hC : ck_Cx g A R) {w : ck_W} {P : Int → Int → ck_W → Prop} (hJ : cj_J A R w) {a1 a2 : Int} (H : ∀ v w2, cj_J A R w2 → P v v w2) : ck_CI (ch_C g A R) 11 mX11_letter [.inr (.inr 0), .inl a1, .inl a2] w (fun v w1 => ck_CI (ch_C g A R) 11 mX12_letter [.inr (.inr 76), .inl a1, .inl a2] w1 (fun v2 w2 => P v v2 w2)) := by
  have c := cs_ar hC
  obtain ⟨hI, hN, hK, hZ⟩ := id hJ.1
  obtain ⟨n1, ⟨n2, n3, n4⟩, n5, ⟨n6, n7⟩, n8, n9⟩ := id hN
  have cp := hJ.2.2.1
  have c0 := rm_c0 hJ.2.1.2.2.2.1
  have s4 := cp.2.2.2.2.1
  refine C_letter (d := 10) hC n8.1.1 (fun ok => ⟨_, rfl, fun _ => ?_⟩) (fun no => ⟨_, rfl, fun _ => ?_⟩)
  · refine M_letter (d := 9) hC (rm_I_fr hJ.2.1 (fun k hk => by rw [ck_up_ne (by omega), ck_up_ne (by omega), ck_up_ne (by omega)])) (fun v2 w2 i2 fr2 p1 p0 f78 _ => ⟨v2, rfl, fun _ => ?_⟩)
    have p := p1 ⟨ok.1, ok.2.1, by show w 77 4 < 12; omega⟩
    have q : w2 77 = rm_u (rm_u (rm_u (w 77) (1270 + 2 * w 77 4) a1) (1270 + 2 * w 77 4 + 1) a2) 4 (w 77 4 + 1) := p.2
    have v : v2 = w 15 2 := by rw [s4]; exact p.1
    have l0 := n8.1.1
    have k8 : cs_X (ck_up (ck_up (ck_up w 16 (w 15 2) a1) 17 (w 15 2) a2) 15 2 (w 15 2 + 1)) := by
      refine ⟨⟨by rw [ck_up_eq]; omega, fun k k0 k1 => ?_⟩, fun k k0 k1 => ?_, n8.2.2.1, n8.2.2.2.1, fun k k0 k1 => ?_⟩
      · rw [ck_up_eq] at k1
        rw [ck_up_ne (by decide), ck_up_ne (by decide), ck_up_at]
        split
        · omega
        · exact n8.1.2 k k0 (by omega)
      · rw [ck_up_eq] at k1
        rw [ck_up_ne (by decide), ck_up_at]
        split
        · exact ok.2.1
        · rw [ck_up_ne (by decide)]; exact n8.2.1 k k0 (by omega)
      · have q := n8.2.2.2.2 k k0 k1
        rw [ck_up_eq]
        show (1 ≤ w 19 k ∧ w 19 k ≤ 99) ∧ (0 ≤ w 18 (k * 3) ∧ w 18 (k * 3) < w 15 2 + 1) ∧ (-1 ≤ w 18 (k * 3 + 1) ∧ w 18 (k * 3 + 1) < w 15 2 + 1) ∧ (-1 ≤ w 18 (k * 3 + 2) ∧ w 18 (k * 3 + 2) < w 15 2 + 1) ∧ (w 18 (k * 3 + 1) = -1 → w 18 (k * 3 + 2) = -1)
        exact ⟨q.1, ⟨q.2.1.1, by omega⟩, ⟨q.2.2.1.1, by omega⟩, ⟨q.2.2.2.1.1, by omega⟩, q.2.2.2.2⟩
    rw [v]
    refine H _ w2 (cj_end hC hJ (w1 := (ck_up (ck_up (ck_up w 16 (w 15 2) a1) 17 (w 15 2) a2) 15 2 (w 15 2 + 1))) (cj_JCs hJ.1 (cw_IV_fr hC hI (fun k hk => by rw [ck_up_ne (by omega), ck_up_ne (by omega), ck_up_ne (by omega)])) (cj_Nm hN (.inl rfl) (.inl rfl) (.inl rfl) (.inl rfl) (.inl ⟨rfl, rfl⟩) (.inl ⟨rfl, rfl, rfl⟩) (.inl ⟨rfl, rfl⟩) (.inr k8) (.inl ⟨rfl, rfl, rfl, rfl, rfl⟩)) (fun k hk => by rw [ck_up_ne (by omega), ck_up_ne (by omega), ck_up_ne (by omega)])) (fun k hk => by rw [ck_up_ne (by omega), ck_up_ne (by omega), ck_up_ne (by omega)]) i2 fr2 f78 ?_)
    rw [q]
    exact ⟨cj_p_fr hC cp.1 (by omega) rfl (fun _ _ _ => rfl) (fun j hj => by rw [rm_u_ne (by omega), rm_u_ne (by omega), rm_u_ne (by omega)]), cj_b_fr hC cp.2.1 (by omega) rfl (fun _ _ _ => rfl) (fun j hj => by rw [rm_u_ne (by omega), rm_u_ne (by omega), rm_u_ne (by omega)]), cj_w_fr cp.2.2.1 (by omega) rfl (fun _ _ _ => rfl) (fun j hj => by rw [rm_u_ne (by omega), rm_u_ne (by omega), rm_u_ne (by omega)]), by rw [rm_u_ne (by omega), rm_u_ne (by omega), rm_u_ne (by omega)]; exact cp.2.2.2.1, by rw [ck_up_eq, rm_u_eq, s4], by rw [rm_u_ne (by omega), rm_u_ne (by omega), rm_u_ne (by omega)]; exact cp.2.2.2.2.2⟩
  · refine M_letter (d := 9) hC hJ.2.1 (fun v2 w2 i2 fr2 p1 p0 f78 _ => ⟨v2, rfl, fun _ => ?_⟩)
    have p := p0 (fun x => no ⟨x.1, x.2.1, by omega⟩)
    rw [p.1]
    exact H (-1) w2 (cj_ends hC hJ hJ.1 (fun _ _ => rfl) cj_Ce_rf i2 fr2 f78 (fun j _ => by rw [p.2]))
theorem J_word {g : ch_G} {A R : Nat} (hC : ck_Cx g A R) {w : ck_W} {P : Int → Int → ck_W → Prop} (hJ : cj_J A R w) {a1 a2 a3 a4 : Int} (H : ∀ v w2, cj_J A R w2 → P v v w2) : ck_CI (ch_C g A R) 11 mX11_word [.inr (.inr 0), .inl a1, .inl a2, .inl a3, .inl a4] w (fun v w1 => ck_CI (ch_C g A R) 11 mX12_word [.inr (.inr 76), .inl a1, .inl a2, .inl a3, .inl a4] w1 (fun v2 w2 => P v v2 w2)) := by
  have c := cs_ar hC
  obtain ⟨hI, hN, hK, hZ⟩ := id hJ.1
  obtain ⟨n1, ⟨n2, n3, n4⟩, n5, ⟨n6, n7⟩, n8, n9⟩ := id hN
  have cp := hJ.2.2.1
  have c0 := rm_c0 hJ.2.1.2.2.2.1
  have s4 := cp.2.2.2.2.1
  have s5 := cp.2.2.1.1
  have l0 := n8.1.1
  have l5 := n8.2.2.2.1
  have nw : cs_noW (w 18) (w 15 5) a1 a2 a3 ↔ rm_noWord (w 77) (w 77 5) a1 a2 a3 := by
    unfold cs_noW rm_noWord
    rw [s5]
    refine forall_congr' fun k => forall_congr' fun k0 => forall_congr' fun k1 => ?_
    have q := cp.2.2.1.2 k k0 k1
    rw [Int.add_zero, q.1, q.2.1, q.2.2]
  refine C_word (d := 8) hC l0 l5 (fun ok => ⟨_, rfl, fun _ => ?_⟩) (fun no => ⟨_, rfl, fun _ => ?_⟩)
  · refine M_word (d := 9) hC (rm_I_fr hJ.2.1 (fun k hk => by rw [ck_up_ne (by omega), ck_up_ne (by omega), ck_up_ne (by omega), ck_up_ne (by omega), ck_up_ne (by omega)])) (fun v2 w2 i2 fr2 f78 _ p1 p0 => ⟨v2, rfl, fun _ => ?_⟩)
    have p := p1 ⟨by show rm_spell (w 77 4) a1 a2 a3; rw [← s4]; exact ok.1, ok.2.1, by show w 77 5 < 12; omega, nw.mp ok.2.2.2⟩
    have q : w2 77 = rm_u (rm_wordU (w 77) (w 77 5) a1 a2 a3 a4) 5 (w 77 5 + 1) := p.2
    have v : v2 = w 15 5 := by rw [s5]; exact p.1
    have sp := ok.1
    unfold rm_spell at sp
    have e18 : ∀ j, (ck_up (ck_up (ck_up (ck_up (ck_up w 18 (w 15 5 * 3) a1) 18 (w 15 5 * 3 + 1) a2) 18 (w 15 5 * 3 + 2) a3) 19 (w 15 5) a4) 15 5 (w 15 5 + 1)) 18 j = if j = w 15 5 * 3 + 2 then a3 else if j = w 15 5 * 3 + 1 then a2 else if j = w 15 5 * 3 then a1 else w 18 j := fun j => by
      rw [ck_up_ne (by decide), ck_up_ne (by decide), ck_up_at, ck_up_at, ck_up_at]
    have e19 : ∀ j, (ck_up (ck_up (ck_up (ck_up (ck_up w 18 (w 15 5 * 3) a1) 18 (w 15 5 * 3 + 1) a2) 18 (w 15 5 * 3 + 2) a3) 19 (w 15 5) a4) 15 5 (w 15 5 + 1)) 19 j = if j = w 15 5 then a4 else w 19 j := fun j => by
      rw [ck_up_ne (by decide), ck_up_at, ck_up_ne (by decide), ck_up_ne (by decide), ck_up_ne (by decide)]
    have k8 : cs_X (ck_up (ck_up (ck_up (ck_up (ck_up w 18 (w 15 5 * 3) a1) 18 (w 15 5 * 3 + 1) a2) 18 (w 15 5 * 3 + 2) a3) 19 (w 15 5) a4) 15 5 (w 15 5 + 1)) := by
      refine ⟨n8.1, n8.2.1, n8.2.2.1, by rw [ck_up_eq]; omega, fun k k0 k1 => ?_⟩
      rw [ck_up_eq] at k1
      rw [e19, e18, e18, e18]
      show _ ∧ (_ ∧ _ < w 15 2) ∧ (_ ∧ _ < w 15 2) ∧ (_ ∧ _ < w 15 2) ∧ _
      by_cases e : k = w 15 5
      · rw [e, if_pos rfl, if_neg (by omega), if_neg (by omega), if_pos rfl, if_neg (by omega), if_pos rfl, if_pos rfl]
        exact ⟨ok.2.1, sp.1, by omega, by omega, by omega⟩
      · rw [if_neg e, if_neg (by omega), if_neg (by omega), if_neg (by omega), if_neg (by omega), if_neg (by omega), if_neg (by omega), if_neg (by omega), if_neg (by omega), if_neg (by omega)]
        exact n8.2.2.2.2 k k0 (by omega)
    rw [v]
    refine H _ w2 (cj_end hC hJ (w1 := (ck_up (ck_up (ck_up (ck_up (ck_up w 18 (w 15 5 * 3) a1) 18 (w 15 5 * 3 + 1) a2) 18 (w 15 5 * 3 + 2) a3) 19 (w 15 5) a4) 15 5 (w 15 5 + 1))) (cj_JCs hJ.1 (cw_IV_fr hC hI (fun k hk => by rw [ck_up_ne (by omega), ck_up_ne (by omega), ck_up_ne (by omega), ck_up_ne (by omega), ck_up_ne (by omega)])) (cj_Nm hN (.inl rfl) (.inl rfl) (.inl rfl) (.inl rfl) (.inl ⟨rfl, rfl⟩) (.inl ⟨rfl, rfl, rfl⟩) (.inl ⟨rfl, rfl⟩) (.inr k8) (.inl ⟨rfl, rfl, rfl, rfl, rfl⟩)) (fun k hk => by rw [ck_up_ne (by omega), ck_up_ne (by omega), ck_up_ne (by omega), ck_up_ne (by omega), ck_up_ne (by omega)])) (fun k hk => by rw [ck_up_ne (by omega), ck_up_ne (by omega), ck_up_ne (by omega), ck_up_ne (by omega), ck_up_ne (by omega)]) i2 fr2 f78 ?_)
    rw [q]
    have un : ∀ j, j ≠ 5 → (j < 1300 ∨ 1348 ≤ j) → rm_u (rm_wordU (w 77) (w 77 5) a1 a2 a3 a4) 5 (w 77 5 + 1) j = w 77 j := fun j h1 h2 => by unfold rm_wordU; rw [rm_u_ne h1, rm_u_ne (by omega), rm_u_ne (by omega), rm_u_ne (by omega), rm_u_ne (by omega)]
    refine ⟨cj_p_fr hC cp.1 (by omega) rfl (fun _ _ _ => rfl) (fun j hj => un j (by omega) (by omega)), cj_b_fr hC cp.2.1 (by omega) rfl (fun _ _ _ => rfl) (fun j hj => un j (by omega) (by omega)), ⟨by rw [ck_up_eq, rm_u_eq, s5], fun k k0 k1 => ?_⟩, by rw [un 2 (by omega) (by omega)]; exact cp.2.2.2.1, by rw [un 4 (by omega) (by omega)]; exact cp.2.2.2.2.1, by rw [un 6 (by omega) (by omega)]; exact cp.2.2.2.2.2⟩
    rw [rm_u_eq] at k1
    rw [e18, e18, e18]
    unfold rm_wordU
    by_cases e : k = w 77 5
    · rw [e, s5, if_neg (by omega), if_neg (by omega), if_pos rfl, if_neg (by omega), if_pos rfl, if_pos rfl]
      refine ⟨?_, ?_, ?_⟩
      · rw [rm_u_ne (by omega), rm_u_ne (by omega), rm_u_ne (by omega), rm_u_ne (by omega), rm_u_eq]
      · rw [rm_u_ne (by omega), rm_u_ne (by omega), rm_u_ne (by omega), rm_u_eq]
      · rw [rm_u_ne (by omega), rm_u_ne (by omega), rm_u_eq]
    · rw [if_neg (by omega), if_neg (by omega), if_neg (by omega), if_neg (by omega), if_neg (by omega), if_neg (by omega), if_neg (by omega), if_neg (by omega), if_neg (by omega)]
      have y := cp.2.2.1.2 k k0 (by omega)
      refine ⟨?_, ?_, ?_⟩
      · rw [rm_u_ne (by omega), rm_u_ne (by omega), rm_u_ne (by omega), rm_u_ne (by omega), rm_u_ne (by omega)]; exact y.1
      · rw [rm_u_ne (by omega), rm_u_ne (by omega), rm_u_ne (by omega), rm_u_ne (by omega), rm_u_ne (by omega)]; exact y.2.1
      · rw [rm_u_ne (by omega), rm_u_ne (by omega), rm_u_ne (by omega), rm_u_ne (by omega), rm_u_ne (by omega)]; exact y.2.2
  · refine M_word (d := 9) hC hJ.2.1 (fun v2 w2 i2 fr2 f78 _ p1 p0 => ⟨v2, rfl, fun _ => ?_⟩)
    have p := p0 (fun x => no ⟨by rw [s4]; exact x.1, x.2.1, by omega, nw.mpr x.2.2.2⟩)
    rw [p.1]
    exact H (-1) w2 (cj_ends hC hJ hJ.1 (fun _ _ => rfl) cj_Ce_rf i2 fr2 f78 (fun j _ => by rw [p.2]))
theorem J_part {g : ch_G} {A R : Nat} (hC : ck_Cx g A R) {w : ck_W} {P : Int → Int → ck_W → Prop} (hJ : cj_J A R w) {a1 a2 a3 : Int} (H : ∀ v w2, cj_J A R w2 → P v v w2) : ck_CI (ch_C g A R) 11 mX11_part [.inr (.inr 0), .inl a1, .inl a2, .inl a3] w (fun v w1 => ck_CI (ch_C g A R) 11 mX12_part [.inr (.inr 76), .inl a1, .inl a2, .inl a3] w1 (fun v2 w2 => P v v2 w2)) := by
  have c := cs_ar hC
  obtain ⟨hI, hN, hK, hZ⟩ := id hJ.1
  obtain ⟨n1, ⟨n2, n3, n4⟩, n5, ⟨n6, n7⟩, n8, n9⟩ := id hN
  have cp := hJ.2.2.1
  have c0 := rm_c0 hJ.2.1.2.2.2.1
  have s6 := cp.2.2.2.2.2
  have l0 := n9.1
  refine C_part (d := 10) hC l0 (fun ok => ⟨_, rfl, fun _ => ?_⟩) (fun no => ⟨_, rfl, fun _ => ?_⟩)
  · refine M_part (d := 10) hC (rm_I_fr hJ.2.1 (fun k hk => by rw [ck_up_ne (by omega), ck_up_ne (by omega), ck_up_ne (by omega), ck_up_ne (by omega)])) (fun v2 w2 i2 fr2 p1 p0 f78 _ => ⟨v2, rfl, fun _ => ?_⟩)
    have p := p1 ⟨ok.1, ok.2.1, ok.2.2.1, by show w 77 6 < 16; omega⟩
    have q : w2 77 = rm_u (rm_u (rm_u (rm_u (w 77) (1360 + 3 * w 77 6) a1) (1360 + 3 * w 77 6 + 1) a2) (1360 + 3 * w 77 6 + 2) a3) 6 (w 77 6 + 1) := p.2
    have v : v2 = w 20 3 + 1 := by rw [s6]; exact p.1
    have k9 : cs_P (ck_up (ck_up (ck_up (ck_up w 21 (w 20 3) a1) 22 (w 20 3) a2) 23 (w 20 3) a3) 20 3 (w 20 3 + 1)) := by
      refine ⟨by rw [ck_up_eq]; omega, fun k k0 k1 => ?_, n9.2.2⟩
      rw [ck_up_eq] at k1
      rw [ck_up_ne (by decide), ck_up_ne (by decide), ck_up_ne (by decide), ck_up_at, ck_up_ne (by decide), ck_up_ne (by decide), ck_up_at, ck_up_ne (by decide), ck_up_ne (by decide), ck_up_at, ck_up_ne (by decide), ck_up_ne (by decide)]
      by_cases e : k = w 20 3
      · rw [if_pos e, if_pos e, if_pos e]; exact ⟨ok.1, ok.2.1, ok.2.2.1⟩
      · rw [if_neg e, if_neg e, if_neg e]; exact n9.2.1 k k0 (by omega)
    rw [v]
    refine H _ w2 (cj_end hC hJ (w1 := (ck_up (ck_up (ck_up (ck_up w 21 (w 20 3) a1) 22 (w 20 3) a2) 23 (w 20 3) a3) 20 3 (w 20 3 + 1))) (cj_JCs hJ.1 (cw_IV_fr hC hI (fun k hk => by rw [ck_up_ne (by omega), ck_up_ne (by omega), ck_up_ne (by omega), ck_up_ne (by omega)])) (cj_Nm hN (.inl rfl) (.inl rfl) (.inl rfl) (.inl rfl) (.inl ⟨rfl, rfl⟩) (.inl ⟨rfl, rfl, rfl⟩) (.inl ⟨rfl, rfl⟩) (.inl ⟨rfl, rfl, rfl, rfl, rfl⟩) (.inr k9)) (fun k hk => by rw [ck_up_ne (by omega), ck_up_ne (by omega), ck_up_ne (by omega), ck_up_ne (by omega)])) (fun k hk => by rw [ck_up_ne (by omega), ck_up_ne (by omega), ck_up_ne (by omega), ck_up_ne (by omega)]) i2 fr2 f78 ?_)
    rw [q]
    exact ⟨cj_p_fr hC cp.1 (by omega) rfl (fun _ _ _ => rfl) (fun j hj => by rw [rm_u_ne (by omega), rm_u_ne (by omega), rm_u_ne (by omega), rm_u_ne (by omega)]), cj_b_fr hC cp.2.1 (by omega) rfl (fun _ _ _ => rfl) (fun j hj => by rw [rm_u_ne (by omega), rm_u_ne (by omega), rm_u_ne (by omega), rm_u_ne (by omega)]), cj_w_fr cp.2.2.1 (by omega) rfl (fun _ _ _ => rfl) (fun j hj => by rw [rm_u_ne (by omega), rm_u_ne (by omega), rm_u_ne (by omega), rm_u_ne (by omega)]), by rw [rm_u_ne (by omega), rm_u_ne (by omega), rm_u_ne (by omega), rm_u_ne (by omega)]; exact cp.2.2.2.1, by rw [rm_u_ne (by omega), rm_u_ne (by omega), rm_u_ne (by omega), rm_u_ne (by omega)]; exact cp.2.2.2.2.1, by rw [ck_up_eq, rm_u_eq, s6]⟩
  · refine M_part (d := 10) hC hJ.2.1 (fun v2 w2 i2 fr2 p1 p0 f78 _ => ⟨v2, rfl, fun _ => ?_⟩)
    have p := p0 (fun x => no ⟨x.1, x.2.1, x.2.2.1, by omega⟩)
    rw [p.1]
    exact H (-1) w2 (cj_ends hC hJ hJ.1 (fun _ _ => rfl) cj_Ce_rf i2 fr2 f78 (fun j _ => by rw [p.2]))
theorem J_fetch {g : ch_G} {A R : Nat} (hC : ck_Cx g A R) {w : ck_W} {P : Int → Int → ck_W → Prop} (hJ : cj_J A R w) {a1 a2 : Int} (H : ∀ v w2, cj_J A R w2 → P v v w2) : ck_CI (ch_C g A R) 11 mX11_fetch [.inr (.inr 0), .inl a1, .inl a2] w (fun v w1 => ck_CI (ch_C g A R) 11 mX12_fetch [.inr (.inr 76), .inl a1, .inl a2] w1 (fun v2 w2 => P v v2 w2)) := by
  have c := cs_ar hC
  obtain ⟨hI, hN, hK, hZ⟩ := id hJ.1
  obtain ⟨n1, ⟨n2, n3, n4⟩, n5, ⟨n6, n7⟩, n8, n9⟩ := id hN
  have cp := hJ.2.2.1
  have c0 := rm_c0 hJ.2.1.2.2.2.1
  refine C_fetch (d := 10) hC (fun ok => ⟨_, rfl, fun _ => ?_⟩) (fun no => ⟨_, rfl, fun _ => ?_⟩)
  · refine M_fetch (d := 10) hC (rm_I_fr hJ.2.1 (fun k hk => by rw [ck_up_ne (by omega)])) (fun v2 w2 i2 fr2 p1 p0 f78 _ => ⟨v2, rfl, fun _ => ?_⟩)
    have p := p1 ok
    have k9 : cs_P (ck_up w 24 a1 a2) := ⟨n9.1, n9.2.1, fun r r0 r1 => by
      rw [ck_up_at]
      split
      · exact ok.2
      · exact n9.2.2 r r0 r1⟩
    rw [p.1]
    exact H _ w2 (cj_ends hC hJ (w1 := (ck_up w 24 a1 a2)) (cj_JCs hJ.1 (cw_IV_fr hC hI (fun k hk => by rw [ck_up_ne (by omega)])) (cj_Nm hN (.inl rfl) (.inl rfl) (.inl rfl) (.inl rfl) (.inl ⟨rfl, rfl⟩) (.inl ⟨rfl, rfl, rfl⟩) (.inl ⟨rfl, rfl⟩) (.inl ⟨rfl, rfl, rfl, rfl, rfl⟩) (.inr k9)) (fun k hk => by rw [ck_up_ne (by omega)])) (fun k hk => by rw [ck_up_ne (by omega)]) ⟨rfl, rfl, rfl, rfl, rfl, rfl, rfl, rfl, rfl⟩ i2 fr2 f78 (fun j hj => by rw [p.2, rm_u_ne (by omega)]))
  · refine M_fetch (d := 10) hC hJ.2.1 (fun v2 w2 i2 fr2 p1 p0 f78 _ => ⟨v2, rfl, fun _ => ?_⟩)
    have p := p0 no
    rw [p.1]
    exact H 0 w2 (cj_ends hC hJ hJ.1 (fun _ _ => rfl) cj_Ce_rf i2 fr2 f78 (fun j _ => by rw [p.2]))
theorem J_end {g : ch_G} {A R : Nat} (hC : ck_Cx g A R) {w : ck_W} {P : Int → Int → ck_W → Prop} (hJ : cj_J A R w) {a1 : Int} (H : ∀ v v2 w2, cj_J A R w2 → P v v2 w2) : ck_CI (ch_C g A R) 11 mX11_end [.inr (.inr 0), .inl a1] w (fun v w1 => ck_CI (ch_C g A R) 11 mX12_end [.inr (.inr 76), .inl a1] w1 (fun v2 w2 => P v v2 w2)) := by
  have c := cs_ar hC
  obtain ⟨hI, hN, hK, hZ⟩ := id hJ.1
  obtain ⟨n1, ⟨n2, n3, n4⟩, n5, ⟨n6, n7⟩, n8, n9⟩ := id hN
  have cp := hJ.2.2.1
  have c0 := rm_c0 hJ.2.1.2.2.2.1
  have go : ∀ v w1, cs_Pz w1 → (∀ k, k ≠ 67 → k ≠ 68 → w1 k = w k) → ∃ v0, (some (.inl v) : Option ck_V) = some (.inl v0) ∧ (ck_i v0 → ck_CI (ch_C g A R) 11 mX12_end [.inr (.inr 76), .inl a1] w1 (fun v2 w2 => P v0 v2 w2)) := fun v w1 z1 e1 => ⟨v, rfl, fun _ => M_end (d := 10) hC (rm_I_fr hJ.2.1 (fun k hk => e1 k (by omega) (by omega))) (fun v2 w2 i2 fr2 _ _ f77 f78 => ⟨v2, rfl, fun _ => H v v2 w2 (cj_ends hC hJ ⟨cw_IV_fr hC hI (fun k hk => e1 k (by omega) (by omega)), cj_N_fr hN (fun k a b => e1 k (by omega) (by omega)), cj_N_fr hK (fun k a b => e1 (k + 24) (by omega) (by omega)), z1⟩ (fun k hk => e1 k (by omega) (by omega)) ⟨by rw [e1 3 (by decide) (by decide)], e1 7 (by decide) (by decide), by rw [e1 8 (by decide) (by decide)], by rw [e1 10 (by decide) (by decide)], e1 14 (by decide) (by decide), by rw [e1 15 (by decide) (by decide)], by rw [e1 15 (by decide) (by decide)], e1 18 (by decide) (by decide), by rw [e1 20 (by decide) (by decide)]⟩ i2 fr2 f78 (fun j hj => by rw [f77]))⟩)⟩
  have t0 := hZ.1.1
  exact C_end (d := 10) hC (fun ok => go _ (ck_up w 67 1 a1) ⟨⟨by rw [ck_up_eq]; omega, fun j j0 j1 => by rw [ck_up_eq] at j1; exact hZ.1.2 j j0 (by omega)⟩, hZ.2.1, hZ.2.2⟩ (fun k x y => by rw [ck_up_ne x])) (fun no => go _ w hZ (fun _ _ _ => rfl))
theorem J_feed {g : ch_G} {A R : Nat} (hC : ck_Cx g A R) {w : ck_W} {P : Int → Int → ck_W → Prop} (hJ : cj_J A R w) {a1 a2 a3 a4 a5 : Int} (H : ∀ v v2 w2, cj_J A R w2 → P v v2 w2) : ck_CI (ch_C g A R) 11 mX11_feed [.inr (.inr 0), .inl a1, .inl a2, .inl a3, .inl a4, .inl a5] w (fun v w1 => ck_CI (ch_C g A R) 11 mX12_feed [.inr (.inr 76), .inl a1, .inl a2, .inl a3, .inl a4, .inl a5] w1 (fun v2 w2 => P v v2 w2)) := by
  have c := cs_ar hC
  obtain ⟨hI, hN, hK, hZ⟩ := id hJ.1
  obtain ⟨n1, ⟨n2, n3, n4⟩, n5, ⟨n6, n7⟩, n8, n9⟩ := id hN
  have cp := hJ.2.2.1
  have c0 := rm_c0 hJ.2.1.2.2.2.1
  have go : ∀ v w1, cs_Pz w1 → (∀ k, k ≠ 67 → k ≠ 68 → w1 k = w k) → ∃ v0, (some (.inl v) : Option ck_V) = some (.inl v0) ∧ (ck_i v0 → ck_CI (ch_C g A R) 11 mX12_feed [.inr (.inr 76), .inl a1, .inl a2, .inl a3, .inl a4, .inl a5] w1 (fun v2 w2 => P v0 v2 w2)) := fun v w1 z1 e1 => ⟨v, rfl, fun _ => M_feed (d := 10) hC (rm_I_fr hJ.2.1 (fun k hk => e1 k (by omega) (by omega))) (fun v2 w2 i2 fr2 _ _ f77 f78 => ⟨v2, rfl, fun _ => H v v2 w2 (cj_ends hC hJ ⟨cw_IV_fr hC hI (fun k hk => e1 k (by omega) (by omega)), cj_N_fr hN (fun k a b => e1 k (by omega) (by omega)), cj_N_fr hK (fun k a b => e1 (k + 24) (by omega) (by omega)), z1⟩ (fun k hk => e1 k (by omega) (by omega)) ⟨by rw [e1 3 (by decide) (by decide)], e1 7 (by decide) (by decide), by rw [e1 8 (by decide) (by decide)], by rw [e1 10 (by decide) (by decide)], e1 14 (by decide) (by decide), by rw [e1 15 (by decide) (by decide)], by rw [e1 15 (by decide) (by decide)], e1 18 (by decide) (by decide), by rw [e1 20 (by decide) (by decide)]⟩ i2 fr2 f78 (fun j hj => by rw [f77]))⟩)⟩
  refine C_feed (d := 10) hC hZ.1.1.1 (fun ok => ?_) (fun no => go _ w hZ (fun _ _ _ => rfl))
  have b1 := cj_four (a := a1) hZ (by omega)
  have b2 := cj_four (a := a2) b1.1 (by rw [b1.2.1]; omega)
  have b3 := cj_four (a := a3) b2.1 (by rw [b2.2.1, b1.2.1]; omega)
  have b4 := cj_four (a := a4) b3.1 (by rw [b3.2.1, b2.2.1, b1.2.1]; omega)
  have b5 := cj_four (a := a5) b4.1 (by rw [b4.2.1, b3.2.1, b2.2.1, b1.2.1]; omega)
  exact go _ (cs_four (cs_four (cs_four (cs_four (cs_four w a1) a2) a3) a4) a5) b5.1 (fun k x y => by rw [b5.2.2 k x y, b4.2.2 k x y, b3.2.2 k x y, b2.2.2 k x y, b1.2.2 k x y])
theorem J_reader {g : ch_G} {A R : Nat} (hC : ck_Cx g A R) {w : ck_W} {P : Int → Int → ck_W → Prop} (hJ : cj_J A R w) (H : ∀ v v2 w2, cj_J A R w2 → P v v2 w2) : ck_CI (ch_C g A R) 11 mX11_reader [.inr (.inr 0)] w (fun v w1 => ck_CI (ch_C g A R) 11 mX12_reader [.inr (.inr 76)] w1 (fun v2 w2 => P v v2 w2)) := by
  have c := cs_ar hC
  obtain ⟨hI, hN, hK, hZ⟩ := id hJ.1
  obtain ⟨n1, ⟨n2, n3, n4⟩, n5, ⟨n6, n7⟩, n8, n9⟩ := id hN
  have cp := hJ.2.2.1
  have c0 := rm_c0 hJ.2.1.2.2.2.1
  refine C_reader (d := 2) hC hZ n6 (fun v w1 e e5 h6 hz1 _ _ => ⟨v, rfl, fun _ => ?_⟩)
  have N1 : cj_N A R w1 := cj_Nm hN (.inl (by rw [e 3 (by decide) (by decide) (by decide) (by decide) (by decide) (by decide)])) (.inl (e 6 (by decide) (by decide) (by decide) (by decide) (by decide) (by decide))) (.inl (e 4 (by decide) (by decide) (by decide) (by decide) (by decide) (by decide))) (.inl (e 5 (by decide) (by decide) (by decide) (by decide) (by decide) (by decide))) (.inl ⟨e 8 (by decide) (by decide) (by decide) (by decide) (by decide) (by decide), e 9 (by decide) (by decide) (by decide) (by decide) (by decide) (by decide)⟩) (.inr h6) (.inl ⟨e5, e 14 (by decide) (by decide) (by decide) (by decide) (by decide) (by decide)⟩) (.inl ⟨e 15 (by decide) (by decide) (by decide) (by decide) (by decide) (by decide), e 16 (by decide) (by decide) (by decide) (by decide) (by decide) (by decide), e 17 (by decide) (by decide) (by decide) (by decide) (by decide) (by decide), e 18 (by decide) (by decide) (by decide) (by decide) (by decide) (by decide), e 19 (by decide) (by decide) (by decide) (by decide) (by decide) (by decide)⟩) (.inl ⟨e 20 (by decide) (by decide) (by decide) (by decide) (by decide) (by decide), e 21 (by decide) (by decide) (by decide) (by decide) (by decide) (by decide), e 22 (by decide) (by decide) (by decide) (by decide) (by decide) (by decide), e 23 (by decide) (by decide) (by decide) (by decide) (by decide) (by decide), e 24 (by decide) (by decide) (by decide) (by decide) (by decide) (by decide)⟩)
  have J1 : cj_JC A R w1 := ⟨cw_IV_fr hC hI (fun k hk => e k (by omega) (by omega) (by omega) (by omega) (by omega) (by omega)), N1, cj_N_fr hK (fun k a b => e (k + 24) (by omega) (by omega) (by omega) (by omega) (by omega) (by omega)), hz1⟩
  refine M_reader (d := 1) hC (rm_I_fr hJ.2.1 (fun k hk => e k (by omega) (by omega) (by omega) (by omega) (by omega) (by omega))) (fun v2 w2 i2 fr2 f78 p _ _ => ⟨v2, rfl, fun _ => ?_⟩)
  refine H v v2 w2 (cj_ends hC hJ J1 (fun k hk => e k (by omega) (by omega) (by omega) (by omega) (by omega) (by omega)) ⟨by rw [e 3 (by decide) (by decide) (by decide) (by decide) (by decide) (by decide)], e 7 (by decide) (by decide) (by decide) (by decide) (by decide) (by decide), by rw [e 8 (by decide) (by decide) (by decide) (by decide) (by decide) (by decide)], e5, e 14 (by decide) (by decide) (by decide) (by decide) (by decide) (by decide), by rw [e 15 (by decide) (by decide) (by decide) (by decide) (by decide) (by decide)], by rw [e 15 (by decide) (by decide) (by decide) (by decide) (by decide) (by decide)], e 18 (by decide) (by decide) (by decide) (by decide) (by decide) (by decide), by rw [e 20 (by decide) (by decide) (by decide) (by decide) (by decide) (by decide)]⟩ i2 fr2 f78 (fun j hj => ?_))
  rcases p with p | p
  · rw [p.2]
  · have e77 := e 77 (by decide) (by decide) (by decide) (by decide) (by decide) (by decide)
    rw [p.2.2.2, e77, rm_u_ne (by omega), rm_u_ne (by omega)]
theorem J_image {g : ch_G} {A R : Nat} (hC : ck_Cx g A R) {w : ck_W} {P : Int → Int → ck_W → Prop} (hJ : cj_J A R w) (H : ∀ v w2, cj_J A R w2 → P v v w2) : ck_CI (ch_C g A R) 11 mX11_image [.inr (.inr 0)] w (fun v w1 => ck_CI (ch_C g A R) 11 mX12_image [.inr (.inr 76)] w1 (fun v2 w2 => P v v2 w2)) := by
  have c := cs_ar hC
  obtain ⟨hI, hN, hK, hZ⟩ := id hJ.1
  obtain ⟨n1, ⟨n2, n3, n4⟩, n5, ⟨n6, n7⟩, n8, n9⟩ := id hN
  have cp := hJ.2.2.1
  have c0 := rm_c0 hJ.2.1.2.2.2.1
  have s3 := cp.2.1.1
  refine C_image (d := 6) hC (fun w1 e e27 q => ⟨_, rfl, fun _ => ?_⟩)
  have q1 : cs_eq A R w (cj_sh w1) 0 0 := q
  have J1 : cj_JC A R w1 := ⟨cw_IV_fr hC hI (fun k hk => e k (by omega)), cj_N_fr hN (fun k a b => e k (by omega)), cj_N_er hN q1, cs_Pz_fr hZ (fun k a b => e k (by omega))⟩
  refine M_image (d := 10) hC (rm_I_fr hJ.2.1 (fun k hk => e k (by omega))) (fun w2 i2 fr2 f2 p => ⟨_, rfl, fun _ => ?_⟩)
  have e77 := e 77 (by decide)
  rw [e77, ← s3]
  refine H _ w2 ⟨cj_JC_fr hC J1 fr2, i2, ?_, ?_⟩
  · rw [f2 77 (by decide), e77]
    exact cj_C_fr hC cp hJ.2.1.2.2.2.1 (fun k a b => (fr2 k (by omega)).trans (e k (by omega))) (fun _ _ => rfl)
  · have y : cj_C A (cj_sh w1) (w2 78) := cj_C_er hC cp hJ.2.1.2.2.2.1 q1 (fun j hj => by rw [p j (by omega) (by omega), e77])
    exact cj_C_fr hC y i2.2.2.2.2.1 (fun k a b => fr2 (k + 24) (by omega)) (fun _ _ => rfl)
theorem J_back {g : ch_G} {A R : Nat} (hC : ck_Cx g A R) {w : ck_W} {P : Int → Int → ck_W → Prop} (hJ : cj_J A R w) (H : ∀ v w2, cj_J A R w2 → P v v w2) : ck_CI (ch_C g A R) 11 mX11_back [.inr (.inr 0)] w (fun v w1 => ck_CI (ch_C g A R) 11 mX12_back [.inr (.inr 76)] w1 (fun v2 w2 => P v v2 w2)) := by
  have c := cs_ar hC
  obtain ⟨hI, hN, hK, hZ⟩ := id hJ.1
  obtain ⟨n1, ⟨n2, n3, n4⟩, n5, ⟨n6, n7⟩, n8, n9⟩ := id hN
  have cp := hJ.2.2.1
  have c0 := rm_c0 hJ.2.1.2.2.2.1
  have ck := hJ.2.2.2
  have s3 : w 34 5 = w 78 3 := ck.2.1.1
  refine C_back (d := 6) hC (fun w1 e e3 z59 q => ⟨_, rfl, fun _ => ?_⟩)
  have q1 : cs_eq A R (cj_sh w) w1 0 0 := q
  have N1 : cj_N A R w1 := cj_N_er hK q1
  have J1 : cj_JC A R w1 := ⟨cw_IV_set hC hI (fun k h1 h2 h3 => e k (by omega)) ⟨by rw [e3.1]; exact hI.1.1.1, by rw [e3.2]; exact hI.1.1.2⟩ N1.2.1.1 N1.2.1.2.1 (fun z z0 z1 zn => absurd (z59 z z0 z1) zn), N1, cj_N_fr hK (fun k a b => e (k + 24) (by omega)), cs_Pz_fr hZ (fun k a b => e k (by omega))⟩
  refine M_back (d := 10) hC (rm_I_fr hJ.2.1 (fun k hk => e k (by omega))) (fun w2 i2 fr2 f2 p => ⟨_, rfl, fun _ => ?_⟩)
  have e78 := e 78 (by decide)
  rw [e78, ← s3]
  refine H _ w2 ⟨cj_JC_fr hC J1 fr2, i2, ?_, ?_⟩
  · have y : cj_C A w1 (w2 77) := cj_C_er hC ck hJ.2.1.2.2.2.2.1 q1 (fun j hj => by rw [p j (by omega) (by omega), e78])
    exact cj_C_fr hC y i2.2.2.2.1 (fun k a b => fr2 k (by omega)) (fun _ _ => rfl)
  · rw [f2 78 (by decide), e78]
    exact cj_C_fr hC ck hJ.2.1.2.2.2.2.1 (fun k a b => (fr2 (k + 24) (by omega)).trans (e (k + 24) (by omega))) (fun _ _ => rfl)
