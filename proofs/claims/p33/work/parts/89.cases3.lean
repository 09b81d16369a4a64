/-! ===== the law's cases, third part ===== -/
theorem J_learnt {g : ch_G} {A R : Nat} (hC : ck_Cx g A R) {w : ck_W} {P : Int → Int → ck_W → Prop} (hJ : cj_J A R w) {a1 a2 : Int} (H : ∀ v w2, cj_J A R w2 → P v v w2) : ck_CI (ch_C g A R) 11 mX11_learnt [.inr (.inr 0), .inl a1, .inl a2] w (fun v w1 => ck_CI (ch_C g A R) 11 mX12_learnt [.inr (.inr 76), .inl a1, .inl a2] w1 (fun v2 w2 => P v v2 w2)) := by
  have c := cs_ar hC
  obtain ⟨hI, hN, hK, hZ⟩ := id hJ.1
  obtain ⟨n1, ⟨n2, n3, n4⟩, n5, ⟨n6, n7⟩, n8, n9⟩ := id hN
  have cp := hJ.2.2.1
  have c0 := rm_c0 hJ.2.1.2.2.2.1
  have X0 := cp.2.2.2.2.2.2
  obtain ⟨et, er, ek⟩ := hJ.2.2.2.2
  have er1 := er.1
  refine C_learnt (d := 9) hC n6.1 (fun ok => ?_) (fun no => ⟨_, rfl, fun _ => M2_learnt (d := 9) hC hJ.2.1 (fun ok => absurd ⟨⟨ok.1.1, by have := er.1; omega⟩, ok.2⟩ no) (fun _ => ⟨_, rfl, fun _ => H _ w hJ⟩)⟩)
  refine ⟨_, rfl, fun _ => M2_learnt (d := 9) hC (rm_I_fr hJ.2.1 (fun k hk => by rw [ck_up_ne (by omega)])) (fun ok2 => ⟨_, rfl, fun _ => ?_⟩) (fun no => absurd ⟨⟨ok.1.1, by show a1 < w 77 0; rw [← er.1]; exact ok.1.2⟩, ok.2⟩ no)⟩
  have b1 := rh_learnt (A := A) (R := R) (r := a1) (by omega) (by omega)
  have i2 : rm_I A R (ck_up (ck_up w 13 a1 a2) 77 (1260 + a1) a2) := rm_Ia (rm_I_fr hJ.2.1 (fun k hk => by rw [ck_up_ne (by omega)])) (rm_up hJ.2.1.2.2.2.1 (by omega) (by omega) (by omega) (by omega) (by omega)) (by omega)
  have J1 : cj_JC A R (ck_up w 13 a1 a2) := cj_JCs hJ.1 (cw_IV_fr hC hI (fun k hk => by rw [ck_up_ne (by omega)])) (cj_Nm hN (.inl rfl) (.inl rfl) (.inl rfl) (.inl rfl) (.inl ⟨rfl, rfl⟩) (.inl ⟨rfl, rfl, rfl⟩) (.inl ⟨rfl, rfl⟩) (.inl ⟨rfl, rfl, rfl, rfl, rfl⟩) (.inl ⟨rfl, rfl, rfl, rfl, rfl⟩)) (fun k hk => by rw [ck_up_ne (by omega)])
  have row : (ck_up (ck_up w 13 a1 a2) 77 (1260 + a1) a2) 77 = rm_u (w 77) (1260 + a1) a2 := by rw [ck_up_row]; rfl
  refine H _ _ (cj_end0 hC hJ J1 (fun k hk => by rw [ck_up_ne (by omega)]) i2 (fun k hk => by rw [ck_up_ne (by omega)]) rfl (cj_Cc hC cp hJ.2.1.2.2.2.1 ⟨rfl, rfl, rfl, rfl, rfl, rfl, rfl, rfl, rfl⟩ (fun j hj => by rw [row, rm_u_ne (by omega)]) (cj_Xk hC X0 hJ.2.1.2.2.2.1 (fun k hk => by rw [ck_up_ne (by omega)]) (fun j hj => by rw [row, rm_u_ne (by omega)]))) ⟨et, ⟨?_, fun r r0 r1 => ?_⟩, ek⟩)
  · rw [row, rm_u_ne (by omega)]; exact er.1
  · rw [row, rm_u_ne (by omega)] at r1
    rw [row, ck_up_ne (by decide), ck_up_at]
    by_cases e : r = a1
    · rw [if_pos e, e, rm_u_eq]
    · rw [if_neg e, rm_u_ne (by omega)]; exact er.2 r r0 r1
theorem J_letter {g : ch_G} {A R : Nat} (hC : ck_Cx g A R) {w : ck_W} {P : Int → Int → ck_W → Prop} (hJ : cj_J A R w) {a1 a2 : Int} (H : ∀ v w2, cj_J A R w2 → P v v w2) : ck_CI (ch_C g A R) 11 mX11_letter [.inr (.inr 0), .inl a1, .inl a2] w (fun v w1 => ck_CI (ch_C g A R) 11 mX12_letter [.inr (.inr 76), .inl a1, .inl a2] w1 (fun v2 w2 => P v v2 w2)) := by
  have c := cs_ar hC
  obtain ⟨hI, hN, hK, hZ⟩ := id hJ.1
  obtain ⟨n1, ⟨n2, n3, n4⟩, n5, ⟨n6, n7⟩, n8, n9⟩ := id hN
  have cp := hJ.2.2.1
  have c0 := rm_c0 hJ.2.1.2.2.2.1
  have X0 := cp.2.2.2.2.2.2
  have s4 := cp.2.2.2.2.1
  refine C_letter (d := 10) hC n8.1.1 (fun ok => ⟨_, rfl, fun _ => ?_⟩) (fun no => ⟨_, rfl, fun _ => ?_⟩)
  · refine M_letter (d := 9) hC (rm_I_fr hJ.2.1 (fun k hk => by rw [ck_up_ne (by omega), ck_up_ne (by omega), ck_up_ne (by omega)])) (fun v2 w2 i2 fr2 p1 p0 f78 f76 => ⟨v2, rfl, fun _ => ?_⟩)
    have p := p1 ⟨ok.1, ok.2.1, by show w 77 4 < 12; omega⟩
    have q : w2 77 = rm_u (rm_u (rm_u (w 77) (1270 + 2 * w 77 4) a1) (1270 + 2 * w 77 4 + 1) a2) 4 (w 77 4 + 1) := p.2
    have v : v2 = w 15 2 := by rw [s4]; exact p.1
    have l0 := n8.1.1
    have k8 : cs_X (ck_up (ck_up (ck_up w 16 (w 15 2) a1) 17 (w 15 2) a2) 15 2 (w 15 2 + 1)) := by
      refine ⟨⟨by rw [ck_up_eq]; omega, fun k k0 k1 => ?_⟩, fun k k0 k1 => ?_, n8.2.2.1, n8.2.2.2.1, fun k k0 k1 => ?_⟩
      · rw [ck_up_eq] at k1
        rw [ck_up_ne (by decide), ck_up_ne (by decide), ck_up_at]
        split
        · omega
        · exact n8.1.2 k k0 (by omega)
      · rw [ck_up_eq] at k1
        rw [ck_up_ne (by decide), ck_up_at]
        split
        · exact ok.2.1
        · rw [ck_up_ne (by decide)]; exact n8.2.1 k k0 (by omega)
      · have q := n8.2.2.2.2 k k0 k1
        rw [ck_up_eq]
        show (1 ≤ w 19 k ∧ w 19 k ≤ 99) ∧ (0 ≤ w 18 (k * 3) ∧ w 18 (k * 3) < w 15 2 + 1) ∧ (-1 ≤ w 18 (k * 3 + 1) ∧ w 18 (k * 3 + 1) < w 15 2 + 1) ∧ (-1 ≤ w 18 (k * 3 + 2) ∧ w 18 (k * 3 + 2) < w 15 2 + 1) ∧ (w 18 (k * 3 + 1) = -1 → w 18 (k * 3 + 2) = -1)
        exact ⟨q.1, ⟨q.2.1.1, by omega⟩, ⟨q.2.2.1.1, by omega⟩, ⟨q.2.2.2.1.1, by omega⟩, q.2.2.2.2⟩
    rw [v]
    refine H _ w2 (cj_end hC hJ (w1 := (ck_up (ck_up (ck_up w 16 (w 15 2) a1) 17 (w 15 2) a2) 15 2 (w 15 2 + 1))) (cj_JCs hJ.1 (cw_IV_fr hC hI (fun k hk => by rw [ck_up_ne (by omega), ck_up_ne (by omega), ck_up_ne (by omega)])) (cj_Nm hN (.inl rfl) (.inl rfl) (.inl rfl) (.inl rfl) (.inl ⟨rfl, rfl⟩) (.inl ⟨rfl, rfl, rfl⟩) (.inl ⟨rfl, rfl⟩) (.inr k8) (.inl ⟨rfl, rfl, rfl, rfl, rfl⟩)) (fun k hk => by rw [ck_up_ne (by omega), ck_up_ne (by omega), ck_up_ne (by omega)])) (fun k hk => by rw [ck_up_ne (by omega), ck_up_ne (by omega), ck_up_ne (by omega)]) i2 fr2 f78 ?_ ⟨rfl, rfl⟩ f76 (fun j hj => by rw [q, rm_u_ne (by omega), rm_u_ne (by omega), rm_u_ne (by omega)]; rfl))
    rw [q]
    have XL : cx_l (ck_up (ck_up (ck_up w 16 (w 15 2) a1) 17 (w 15 2) a2) 15 2 (w 15 2 + 1)) (rm_u (rm_u (rm_u (w 77) (1270 + 2 * w 77 4) a1) (1270 + 2 * w 77 4 + 1) a2) 4 (w 77 4 + 1)) := by
      intro k k0 k1
      rw [rm_u_eq] at k1
      rw [ck_up_ne (by decide), ck_up_ne (by decide), ck_up_at, ck_up_ne (by decide), ck_up_at, ck_up_ne (by decide), s4]
      by_cases e : k = w 77 4
      · have x0 : rm_u (rm_u (rm_u (w 77) (1270 + 2 * w 77 4) a1) (1270 + 2 * w 77 4 + 1) a2) 4 (w 77 4 + 1) (1270 + 2 * w 77 4) = a1 := by rw [rm_u_ne (by omega), rm_u_ne (by omega), rm_u_eq]
        have x1 : rm_u (rm_u (rm_u (w 77) (1270 + 2 * w 77 4) a1) (1270 + 2 * w 77 4 + 1) a2) 4 (w 77 4 + 1) (1270 + 2 * w 77 4 + 1) = a2 := by rw [rm_u_ne (by omega), rm_u_eq]
        rw [if_pos e, if_pos e, e, x0, x1]
        exact ⟨rfl, rfl⟩
      · have x0 : rm_u (rm_u (rm_u (w 77) (1270 + 2 * w 77 4) a1) (1270 + 2 * w 77 4 + 1) a2) 4 (w 77 4 + 1) (1270 + 2 * k) = w 77 (1270 + 2 * k) := by rw [rm_u_ne (by omega), rm_u_ne (by omega), rm_u_ne (by omega)]
        have x1 : rm_u (rm_u (rm_u (w 77) (1270 + 2 * w 77 4) a1) (1270 + 2 * w 77 4 + 1) a2) 4 (w 77 4 + 1) (1270 + 2 * k + 1) = w 77 (1270 + 2 * k + 1) := by rw [rm_u_ne (by omega), rm_u_ne (by omega), rm_u_ne (by omega)]
        rw [if_neg e, if_neg e, x0, x1]
        exact X0.2.2.2.2.1 k k0 (by omega)
    exact ⟨cj_p_fr hC cp.1 (by omega) rfl (fun _ _ _ => rfl) (fun j hj => by rw [rm_u_ne (by omega), rm_u_ne (by omega), rm_u_ne (by omega)]), cj_b_fr hC cp.2.1 (by omega) rfl (fun _ _ _ => rfl) (fun j hj => by rw [rm_u_ne (by omega), rm_u_ne (by omega), rm_u_ne (by omega)]), cj_w_fr cp.2.2.1 (by omega) rfl (fun _ _ _ => rfl) (fun j hj => by rw [rm_u_ne (by omega), rm_u_ne (by omega), rm_u_ne (by omega)]), by rw [rm_u_ne (by omega), rm_u_ne (by omega), rm_u_ne (by omega)]; exact cp.2.2.2.1, by rw [ck_up_eq, rm_u_eq, s4], by rw [rm_u_ne (by omega), rm_u_ne (by omega), rm_u_ne (by omega)]; exact cp.2.2.2.2.2.1, cj_Xm hC X0 hJ.2.1.2.2.2.1 (.inl ⟨rfl, rfl, fun j _ _ => by rw [rm_u_ne (by omega), rm_u_ne (by omega), rm_u_ne (by omega)]⟩) (.inl ⟨rfl, fun j _ _ => by rw [rm_u_ne (by omega), rm_u_ne (by omega), rm_u_ne (by omega)]⟩) (.inl ⟨rfl, fun j _ => by rw [rm_u_ne (by omega), rm_u_ne (by omega), rm_u_ne (by omega)]⟩) (.inl ⟨rfl, rfl, fun j _ => by rw [rm_u_ne (by omega), rm_u_ne (by omega), rm_u_ne (by omega)]⟩) (.inr XL) (.inl ⟨rfl, rfl, rfl, fun j _ => by rw [rm_u_ne (by omega), rm_u_ne (by omega), rm_u_ne (by omega)]⟩) (.inl ⟨rfl, rfl, rfl, rfl, fun j _ => by rw [rm_u_ne (by omega), rm_u_ne (by omega), rm_u_ne (by omega)]⟩)⟩
  · refine M_letter (d := 9) hC hJ.2.1 (fun v2 w2 i2 fr2 p1 p0 f78 f76 => ⟨v2, rfl, fun _ => ?_⟩)
    have p := p0 (fun x => no ⟨x.1, x.2.1, by omega⟩)
    rw [p.1]
    exact H (-1) w2 (cj_ends hC hJ hJ.1 (fun _ _ => rfl) cj_Ce_rf ⟨rfl, rfl⟩ i2 fr2 f78 f76 (fun j _ => by rw [p.2]) (by rw [p.2]; exact X0))
theorem J_word {g : ch_G} {A R : Nat} (hC : ck_Cx g A R) {w : ck_W} {P : Int → Int → ck_W → Prop} (hJ : cj_J A R w) {a1 a2 a3 a4 : Int} (H : ∀ v w2, cj_J A R w2 → P v v w2) : ck_CI (ch_C g A R) 11 mX11_word [.inr (.inr 0), .inl a1, .inl a2, .inl a3, .inl a4] w (fun v w1 => ck_CI (ch_C g A R) 11 mX12_word [.inr (.inr 76), .inl a1, .inl a2, .inl a3, .inl a4] w1 (fun v2 w2 => P v v2 w2)) := by
  have c := cs_ar hC
  obtain ⟨hI, hN, hK, hZ⟩ := id hJ.1
  obtain ⟨n1, ⟨n2, n3, n4⟩, n5, ⟨n6, n7⟩, n8, n9⟩ := id hN
  have cp := hJ.2.2.1
  have c0 := rm_c0 hJ.2.1.2.2.2.1
  have X0 := cp.2.2.2.2.2.2
  have s4 := cp.2.2.2.2.1
  have s5 := cp.2.2.1.1
  have l0 := n8.1.1
  have l5 := n8.2.2.2.1
  have nw : cs_noW (w 18) (w 15 5) a1 a2 a3 ↔ rm_noWord (w 77) (w 77 5) a1 a2 a3 := by
    unfold cs_noW rm_noWord
    rw [s5]
    refine forall_congr' fun k => forall_congr' fun k0 => forall_congr' fun k1 => ?_
    have q := cp.2.2.1.2 k k0 k1
    rw [Int.add_zero, q.1, q.2.1, q.2.2]
  refine C_word (d := 8) hC l0 l5 (fun ok => ⟨_, rfl, fun _ => ?_⟩) (fun no => ⟨_, rfl, fun _ => ?_⟩)
  · refine M_word (d := 9) hC (rm_I_fr hJ.2.1 (fun k hk => by rw [ck_up_ne (by omega), ck_up_ne (by omega), ck_up_ne (by omega), ck_up_ne (by omega), ck_up_ne (by omega)])) (fun v2 w2 i2 fr2 f78 f76 p1 p0 => ⟨v2, rfl, fun _ => ?_⟩)
    have p := p1 ⟨by show rm_spell (w 77 4) a1 a2 a3; rw [← s4]; exact ok.1, ok.2.1, by show w 77 5 < 12; omega, nw.mp ok.2.2.2⟩
    have q : w2 77 = rm_u (rm_wordU (w 77) (w 77 5) a1 a2 a3 a4) 5 (w 77 5 + 1) := p.2
    have v : v2 = w 15 5 := by rw [s5]; exact p.1
    have sp := ok.1
    unfold rm_spell at sp
    have e18 : ∀ j, (ck_up (ck_up (ck_up (ck_up (ck_up w 18 (w 15 5 * 3) a1) 18 (w 15 5 * 3 + 1) a2) 18 (w 15 5 * 3 + 2) a3) 19 (w 15 5) a4) 15 5 (w 15 5 + 1)) 18 j = if j = w 15 5 * 3 + 2 then a3 else if j = w 15 5 * 3 + 1 then a2 else if j = w 15 5 * 3 then a1 else w 18 j := fun j => by
      rw [ck_up_ne (by decide), ck_up_ne (by decide), ck_up_at, ck_up_at, ck_up_at]
    have e19 : ∀ j, (ck_up (ck_up (ck_up (ck_up (ck_up w 18 (w 15 5 * 3) a1) 18 (w 15 5 * 3 + 1) a2) 18 (w 15 5 * 3 + 2) a3) 19 (w 15 5) a4) 15 5 (w 15 5 + 1)) 19 j = if j = w 15 5 then a4 else w 19 j := fun j => by
      rw [ck_up_ne (by decide), ck_up_at, ck_up_ne (by decide), ck_up_ne (by decide), ck_up_ne (by decide)]
    have k8 : cs_X (ck_up (ck_up (ck_up (ck_up (ck_up w 18 (w 15 5 * 3) a1) 18 (w 15 5 * 3 + 1) a2) 18 (w 15 5 * 3 + 2) a3) 19 (w 15 5) a4) 15 5 (w 15 5 + 1)) := by
      refine ⟨n8.1, n8.2.1, n8.2.2.1, by rw [ck_up_eq]; omega, fun k k0 k1 => ?_⟩
      rw [ck_up_eq] at k1
      rw [e19, e18, e18, e18]
      show _ ∧ (_ ∧ _ < w 15 2) ∧ (_ ∧ _ < w 15 2) ∧ (_ ∧ _ < w 15 2) ∧ _
      by_cases e : k = w 15 5
      · rw [e, if_pos rfl, if_neg (by omega), if_neg (by omega), if_pos rfl, if_neg (by omega), if_pos rfl, if_pos rfl]
        exact ⟨ok.2.1, sp.1, by omega, by omega, by omega⟩
      · rw [if_neg e, if_neg (by omega), if_neg (by omega), if_neg (by omega), if_neg (by omega), if_neg (by omega), if_neg (by omega), if_neg (by omega), if_neg (by omega), if_neg (by omega)]
        exact n8.2.2.2.2 k k0 (by omega)
    rw [v]
    refine H _ w2 (cj_end hC hJ (w1 := (ck_up (ck_up (ck_up (ck_up (ck_up w 18 (w 15 5 * 3) a1) 18 (w 15 5 * 3 + 1) a2) 18 (w 15 5 * 3 + 2) a3) 19 (w 15 5) a4) 15 5 (w 15 5 + 1))) (cj_JCs hJ.1 (cw_IV_fr hC hI (fun k hk => by rw [ck_up_ne (by omega), ck_up_ne (by omega), ck_up_ne (by omega), ck_up_ne (by omega), ck_up_ne (by omega)])) (cj_Nm hN (.inl rfl) (.inl rfl) (.inl rfl) (.inl rfl) (.inl ⟨rfl, rfl⟩) (.inl ⟨rfl, rfl, rfl⟩) (.inl ⟨rfl, rfl⟩) (.inr k8) (.inl ⟨rfl, rfl, rfl, rfl, rfl⟩)) (fun k hk => by rw [ck_up_ne (by omega), ck_up_ne (by omega), ck_up_ne (by omega), ck_up_ne (by omega), ck_up_ne (by omega)])) (fun k hk => by rw [ck_up_ne (by omega), ck_up_ne (by omega), ck_up_ne (by omega), ck_up_ne (by omega), ck_up_ne (by omega)]) i2 fr2 f78 ?_ ⟨rfl, rfl⟩ f76 (fun j hj => by rw [q]; unfold rm_wordU; rw [rm_u_ne (by omega), rm_u_ne (by omega), rm_u_ne (by omega), rm_u_ne (by omega), rm_u_ne (by omega)]; rfl))
    rw [q]
    have un : ∀ j, j ≠ 5 → (j < 1300 ∨ 1348 ≤ j) → rm_u (rm_wordU (w 77) (w 77 5) a1 a2 a3 a4) 5 (w 77 5 + 1) j = w 77 j := fun j h1 h2 => by unfold rm_wordU; rw [rm_u_ne h1, rm_u_ne (by omega), rm_u_ne (by omega), rm_u_ne (by omega), rm_u_ne (by omega)]
    refine ⟨cj_p_fr hC cp.1 (by omega) rfl (fun _ _ _ => rfl) (fun j hj => un j (by omega) (by omega)), cj_b_fr hC cp.2.1 (by omega) rfl (fun _ _ _ => rfl) (fun j hj => un j (by omega) (by omega)), ⟨by rw [ck_up_eq, rm_u_eq, s5], fun k k0 k1 => ?_⟩, by rw [un 2 (by omega) (by omega)]; exact cp.2.2.2.1, by rw [un 4 (by omega) (by omega)]; exact cp.2.2.2.2.1, by rw [un 6 (by omega) (by omega)]; exact cp.2.2.2.2.2.1, ?_⟩
    rotate_left
    · have XW : cx_w (ck_up (ck_up (ck_up (ck_up (ck_up w 18 (w 15 5 * 3) a1) 18 (w 15 5 * 3 + 1) a2) 18 (w 15 5 * 3 + 2) a3) 19 (w 15 5) a4) 15 5 (w 15 5 + 1)) (rm_u (rm_wordU (w 77) (w 77 5) a1 a2 a3 a4) 5 (w 77 5 + 1)) := by
        refine ⟨⟨by rw [un 8 (by omega) (by omega)]; exact X0.2.2.2.2.2.1.1.1, by rw [un 9 (by omega) (by omega)]; exact X0.2.2.2.2.2.1.1.2⟩, fun k k0 k1 => ?_⟩
        rw [rm_u_eq] at k1
        rw [e19, s5]
        unfold rm_wordU
        rw [rm_u_ne (by omega)]
        by_cases e : k = w 77 5
        · rw [if_pos e, e, rm_u_eq]
        · rw [if_neg e, rm_u_ne (by omega), rm_u_ne (by omega), rm_u_ne (by omega), rm_u_ne (by omega)]
          exact X0.2.2.2.2.2.1.2 k k0 (by omega)
      exact cj_Xm hC X0 hJ.2.1.2.2.2.1 (.inl ⟨rfl, rfl, fun j _ _ => un j (by omega) (by omega)⟩) (.inl ⟨rfl, fun j _ _ => un j (by omega) (by omega)⟩) (.inl ⟨rfl, fun j _ => un j (by omega) (by omega)⟩) (.inl ⟨rfl, rfl, fun j _ => un j (by omega) (by omega)⟩) (.inl ⟨rfl, rfl, fun j _ => un j (by omega) (by omega)⟩) (.inr XW) (.inl ⟨rfl, rfl, rfl, rfl, fun j _ => un j (by omega) (by omega)⟩)
    rw [rm_u_eq] at k1
    rw [e18, e18, e18]
    unfold rm_wordU
    by_cases e : k = w 77 5
    · rw [e, s5, if_neg (by omega), if_neg (by omega), if_pos rfl, if_neg (by omega), if_pos rfl, if_pos rfl]
      refine ⟨?_, ?_, ?_⟩
      · rw [rm_u_ne (by omega), rm_u_ne (by omega), rm_u_ne (by omega), rm_u_ne (by omega), rm_u_eq]
      · rw [rm_u_ne (by omega), rm_u_ne (by omega), rm_u_ne (by omega), rm_u_eq]
      · rw [rm_u_ne (by omega), rm_u_ne (by omega), rm_u_eq]
    · rw [if_neg (by omega), if_neg (by omega), if_neg (by omega), if_neg (by omega), if_neg (by omega), if_neg (by omega), if_neg (by omega), if_neg (by omega), if_neg (by omega)]
      have y := cp.2.2.1.2 k k0 (by omega)
      refine ⟨?_, ?_, ?_⟩
      · rw [rm_u_ne (by omega), rm_u_ne (by omega), rm_u_ne (by omega), rm_u_ne (by omega), rm_u_ne (by omega)]; exact y.1
      · rw [rm_u_ne (by omega), rm_u_ne (by omega), rm_u_ne (by omega), rm_u_ne (by omega), rm_u_ne (by omega)]; exact y.2.1
      · rw [rm_u_ne (by omega), rm_u_ne (by omega), rm_u_ne (by omega), rm_u_ne (by omega), rm_u_ne (by omega)]; exact y.2.2
  · refine M_word (d := 9) hC hJ.2.1 (fun v2 w2 i2 fr2 f78 f76 p1 p0 => ⟨v2, rfl, fun _ => ?_⟩)
    have p := p0 (fun x => no ⟨by rw [s4]; exact x.1, x.2.1, by omega, nw.mpr x.2.2.2⟩)
    rw [p.1]
    exact H (-1) w2 (cj_ends hC hJ hJ.1 (fun _ _ => rfl) cj_Ce_rf ⟨rfl, rfl⟩ i2 fr2 f78 f76 (fun j _ => by rw [p.2]) (by rw [p.2]; exact X0))
theorem J_part {g : ch_G} {A R : Nat} (hC : ck_Cx g A R) {w : ck_W} {P : Int → Int → ck_W → Prop} (hJ : cj_J A R w) {a1 a2 a3 : Int} (H : ∀ v w2, cj_J A R w2 → P v v w2) : ck_CI (ch_C g A R) 11 mX11_part [.inr (.inr 0), .inl a1, .inl a2, .inl a3] w (fun v w1 => ck_CI (ch_C g A R) 11 mX12_part [.inr (.inr 76), .inl a1, .inl a2, .inl a3] w1 (fun v2 w2 => P v v2 w2)) := by
  have c := cs_ar hC
  obtain ⟨hI, hN, hK, hZ⟩ := id hJ.1
  obtain ⟨n1, ⟨n2, n3, n4⟩, n5, ⟨n6, n7⟩, n8, n9⟩ := id hN
  have cp := hJ.2.2.1
  have c0 := rm_c0 hJ.2.1.2.2.2.1
  have X0 := cp.2.2.2.2.2.2
  have s6 := cp.2.2.2.2.2.1
  have l0 := n9.1
  refine C_part (d := 10) hC l0 (fun ok => ⟨_, rfl, fun _ => ?_⟩) (fun no => ⟨_, rfl, fun _ => ?_⟩)
  · refine M_part (d := 10) hC (rm_I_fr hJ.2.1 (fun k hk => by rw [ck_up_ne (by omega), ck_up_ne (by omega), ck_up_ne (by omega), ck_up_ne (by omega)])) (fun v2 w2 i2 fr2 p1 p0 f78 f76 => ⟨v2, rfl, fun _ => ?_⟩)
    have p := p1 ⟨ok.1, ok.2.1, ok.2.2.1, by show w 77 6 < 16; omega⟩
    have q : w2 77 = rm_u (rm_u (rm_u (rm_u (w 77) (1360 + 3 * w 77 6) a1) (1360 + 3 * w 77 6 + 1) a2) (1360 + 3 * w 77 6 + 2) a3) 6 (w 77 6 + 1) := p.2
    have v : v2 = w 20 3 + 1 := by rw [s6]; exact p.1
    have k9 : cs_P (ck_up (ck_up (ck_up (ck_up w 21 (w 20 3) a1) 22 (w 20 3) a2) 23 (w 20 3) a3) 20 3 (w 20 3 + 1)) := by
      refine ⟨by rw [ck_up_eq]; omega, fun k k0 k1 => ?_, n9.2.2⟩
      rw [ck_up_eq] at k1
      rw [ck_up_ne (by decide), ck_up_ne (by decide), ck_up_ne (by decide), ck_up_at, ck_up_ne (by decide), ck_up_ne (by decide), ck_up_at, ck_up_ne (by decide), ck_up_ne (by decide), ck_up_at, ck_up_ne (by decide), ck_up_ne (by decide)]
      by_cases e : k = w 20 3
      · rw [if_pos e, if_pos e, if_pos e]; exact ⟨ok.1, ok.2.1, ok.2.2.1⟩
      · rw [if_neg e, if_neg e, if_neg e]; exact n9.2.1 k k0 (by omega)
    rw [v]
    refine H _ w2 (cj_end hC hJ (w1 := (ck_up (ck_up (ck_up (ck_up w 21 (w 20 3) a1) 22 (w 20 3) a2) 23 (w 20 3) a3) 20 3 (w 20 3 + 1))) (cj_JCs hJ.1 (cw_IV_fr hC hI (fun k hk => by rw [ck_up_ne (by omega), ck_up_ne (by omega), ck_up_ne (by omega), ck_up_ne (by omega)])) (cj_Nm hN (.inl rfl) (.inl rfl) (.inl rfl) (.inl rfl) (.inl ⟨rfl, rfl⟩) (.inl ⟨rfl, rfl, rfl⟩) (.inl ⟨rfl, rfl⟩) (.inl ⟨rfl, rfl, rfl, rfl, rfl⟩) (.inr k9)) (fun k hk => by rw [ck_up_ne (by omega), ck_up_ne (by omega), ck_up_ne (by omega), ck_up_ne (by omega)])) (fun k hk => by rw [ck_up_ne (by omega), ck_up_ne (by omega), ck_up_ne (by omega), ck_up_ne (by omega)]) i2 fr2 f78 ?_ ⟨rfl, rfl⟩ f76 (fun j hj => by rw [q, rm_u_ne (by omega), rm_u_ne (by omega), rm_u_ne (by omega), rm_u_ne (by omega)]; rfl))
    rw [q]
    have XQ : cx_q (ck_up (ck_up (ck_up (ck_up w 21 (w 20 3) a1) 22 (w 20 3) a2) 23 (w 20 3) a3) 20 3 (w 20 3 + 1)) (rm_u (rm_u (rm_u (rm_u (w 77) (1360 + 3 * w 77 6) a1) (1360 + 3 * w 77 6 + 1) a2) (1360 + 3 * w 77 6 + 2) a3) 6 (w 77 6 + 1)) := by
      refine ⟨fun k k0 k1 => ?_, fun r r0 r1 => ?_⟩
      · rw [rm_u_eq] at k1
        rw [ck_up_ne (by decide), ck_up_ne (by decide), ck_up_ne (by decide), ck_up_at, ck_up_ne (by decide), ck_up_ne (by decide), ck_up_at, ck_up_ne (by decide), ck_up_ne (by decide), ck_up_at, ck_up_ne (by decide), ck_up_ne (by decide), s6]
        by_cases e : k = w 77 6
        · have x0 : rm_u (rm_u (rm_u (rm_u (w 77) (1360 + 3 * w 77 6) a1) (1360 + 3 * w 77 6 + 1) a2) (1360 + 3 * w 77 6 + 2) a3) 6 (w 77 6 + 1) (1360 + 3 * w 77 6) = a1 := by rw [rm_u_ne (by omega), rm_u_ne (by omega), rm_u_ne (by omega), rm_u_eq]
          have x1 : rm_u (rm_u (rm_u (rm_u (w 77) (1360 + 3 * w 77 6) a1) (1360 + 3 * w 77 6 + 1) a2) (1360 + 3 * w 77 6 + 2) a3) 6 (w 77 6 + 1) (1360 + 3 * w 77 6 + 1) = a2 := by rw [rm_u_ne (by omega), rm_u_ne (by omega), rm_u_eq]
          have x2 : rm_u (rm_u (rm_u (rm_u (w 77) (1360 + 3 * w 77 6) a1) (1360 + 3 * w 77 6 + 1) a2) (1360 + 3 * w 77 6 + 2) a3) 6 (w 77 6 + 1) (1360 + 3 * w 77 6 + 2) = a3 := by rw [rm_u_ne (by omega), rm_u_eq]
          rw [if_pos e, if_pos e, if_pos e, e, x0, x1, x2]
          exact ⟨rfl, rfl, rfl⟩
        · have x0 : rm_u (rm_u (rm_u (rm_u (w 77) (1360 + 3 * w 77 6) a1) (1360 + 3 * w 77 6 + 1) a2) (1360 + 3 * w 77 6 + 2) a3) 6 (w 77 6 + 1) (1360 + 3 * k) = w 77 (1360 + 3 * k) := by rw [rm_u_ne (by omega), rm_u_ne (by omega), rm_u_ne (by omega), rm_u_ne (by omega)]
          have x1 : rm_u (rm_u (rm_u (rm_u (w 77) (1360 + 3 * w 77 6) a1) (1360 + 3 * w 77 6 + 1) a2) (1360 + 3 * w 77 6 + 2) a3) 6 (w 77 6 + 1) (1360 + 3 * k + 1) = w 77 (1360 + 3 * k + 1) := by rw [rm_u_ne (by omega), rm_u_ne (by omega), rm_u_ne (by omega), rm_u_ne (by omega)]
          have x2 : rm_u (rm_u (rm_u (rm_u (w 77) (1360 + 3 * w 77 6) a1) (1360 + 3 * w 77 6 + 1) a2) (1360 + 3 * w 77 6 + 2) a3) 6 (w 77 6 + 1) (1360 + 3 * k + 2) = w 77 (1360 + 3 * k + 2) := by rw [rm_u_ne (by omega), rm_u_ne (by omega), rm_u_ne (by omega), rm_u_ne (by omega)]
          rw [if_neg e, if_neg e, if_neg e, x0, x1, x2]
          exact X0.2.2.2.2.2.2.1 k k0 (by omega)
      · rw [rm_u_ne (by omega), rm_u_ne (by omega), rm_u_ne (by omega), rm_u_ne (by omega)]
        exact X0.2.2.2.2.2.2.2 r r0 r1
    exact ⟨cj_p_fr hC cp.1 (by omega) rfl (fun _ _ _ => rfl) (fun j hj => by rw [rm_u_ne (by omega), rm_u_ne (by omega), rm_u_ne (by omega), rm_u_ne (by omega)]), cj_b_fr hC cp.2.1 (by omega) rfl (fun _ _ _ => rfl) (fun j hj => by rw [rm_u_ne (by omega), rm_u_ne (by omega), rm_u_ne (by omega), rm_u_ne (by omega)]), cj_w_fr cp.2.2.1 (by omega) rfl (fun _ _ _ => rfl) (fun j hj => by rw [rm_u_ne (by omega), rm_u_ne (by omega), rm_u_ne (by omega), rm_u_ne (by omega)]), by rw [rm_u_ne (by omega), rm_u_ne (by omega), rm_u_ne (by omega), rm_u_ne (by omega)]; exact cp.2.2.2.1, by rw [rm_u_ne (by omega), rm_u_ne (by omega), rm_u_ne (by omega), rm_u_ne (by omega)]; exact cp.2.2.2.2.1, by rw [ck_up_eq, rm_u_eq, s6], cj_Xm hC X0 hJ.2.1.2.2.2.1 (.inl ⟨rfl, rfl, fun j _ _ => by rw [rm_u_ne (by omega), rm_u_ne (by omega), rm_u_ne (by omega), rm_u_ne (by omega)]⟩) (.inl ⟨rfl, fun j _ _ => by rw [rm_u_ne (by omega), rm_u_ne (by omega), rm_u_ne (by omega), rm_u_ne (by omega)]⟩) (.inl ⟨rfl, fun j _ => by rw [rm_u_ne (by omega), rm_u_ne (by omega), rm_u_ne (by omega), rm_u_ne (by omega)]⟩) (.inl ⟨rfl, rfl, fun j _ => by rw [rm_u_ne (by omega), rm_u_ne (by omega), rm_u_ne (by omega), rm_u_ne (by omega)]⟩) (.inl ⟨rfl, rfl, fun j _ => by rw [rm_u_ne (by omega), rm_u_ne (by omega), rm_u_ne (by omega), rm_u_ne (by omega)]⟩) (.inl ⟨rfl, rfl, rfl, fun j _ => by rw [rm_u_ne (by omega), rm_u_ne (by omega), rm_u_ne (by omega), rm_u_ne (by omega)]⟩) (.inr XQ)⟩
  · refine M_part (d := 10) hC hJ.2.1 (fun v2 w2 i2 fr2 p1 p0 f78 f76 => ⟨v2, rfl, fun _ => ?_⟩)
    have p := p0 (fun x => no ⟨x.1, x.2.1, x.2.2.1, by omega⟩)
    rw [p.1]
    exact H (-1) w2 (cj_ends hC hJ hJ.1 (fun _ _ => rfl) cj_Ce_rf ⟨rfl, rfl⟩ i2 fr2 f78 f76 (fun j _ => by rw [p.2]) (by rw [p.2]; exact X0))
theorem J_fetch {g : ch_G} {A R : Nat} (hC : ck_Cx g A R) {w : ck_W} {P : Int → Int → ck_W → Prop} (hJ : cj_J A R w) {a1 a2 : Int} (H : ∀ v w2, cj_J A R w2 → P v v w2) : ck_CI (ch_C g A R) 11 mX11_fetch [.inr (.inr 0), .inl a1, .inl a2] w (fun v w1 => ck_CI (ch_C g A R) 11 mX12_fetch [.inr (.inr 76), .inl a1, .inl a2] w1 (fun v2 w2 => P v v2 w2)) := by
  have c := cs_ar hC
  obtain ⟨hI, hN, hK, hZ⟩ := id hJ.1
  obtain ⟨n1, ⟨n2, n3, n4⟩, n5, ⟨n6, n7⟩, n8, n9⟩ := id hN
  have cp := hJ.2.2.1
  have c0 := rm_c0 hJ.2.1.2.2.2.1
  have X0 := cp.2.2.2.2.2.2
  refine C_fetch (d := 10) hC (fun ok => ⟨_, rfl, fun _ => ?_⟩) (fun no => ⟨_, rfl, fun _ => ?_⟩)
  · refine M_fetch (d := 10) hC (rm_I_fr hJ.2.1 (fun k hk => by rw [ck_up_ne (by omega)])) (fun v2 w2 i2 fr2 p1 p0 f78 f76 => ⟨v2, rfl, fun _ => ?_⟩)
    have p := p1 ok
    have k9 : cs_P (ck_up w 24 a1 a2) := ⟨n9.1, n9.2.1, fun r r0 r1 => by
      rw [ck_up_at]
      split
      · exact ok.2
      · exact n9.2.2 r r0 r1⟩
    rw [p.1]
    exact H _ w2 (cj_ends hC hJ (w1 := (ck_up w 24 a1 a2)) (cj_JCs hJ.1 (cw_IV_fr hC hI (fun k hk => by rw [ck_up_ne (by omega)])) (cj_Nm hN (.inl rfl) (.inl rfl) (.inl rfl) (.inl rfl) (.inl ⟨rfl, rfl⟩) (.inl ⟨rfl, rfl, rfl⟩) (.inl ⟨rfl, rfl⟩) (.inl ⟨rfl, rfl, rfl, rfl, rfl⟩) (.inr k9)) (fun k hk => by rw [ck_up_ne (by omega)])) (fun k hk => by rw [ck_up_ne (by omega)]) ⟨rfl, rfl, rfl, rfl, rfl, rfl, rfl, rfl, rfl⟩ ⟨rfl, rfl⟩ i2 fr2 f78 f76 (fun j hj => by rw [p.2, rm_u_ne (by omega)]) (by
      have q : w2 77 = rm_u (w 77) (1420 + a1) a2 := p.2
      have XQ : cx_q (ck_up w 24 a1 a2) (rm_u (w 77) (1420 + a1) a2) := by
        refine ⟨fun k k0 k1 => ?_, fun r r0 r1 => ?_⟩
        · rw [rm_u_ne (by omega)] at k1
          rw [rm_u_ne (by omega), rm_u_ne (by omega), rm_u_ne (by omega)]
          exact X0.2.2.2.2.2.2.1 k k0 k1
        · rw [ck_up_at]
          by_cases e : r = a1
          · rw [if_pos e, e, rm_u_eq]
          · rw [if_neg e, rm_u_ne (by omega)]; exact X0.2.2.2.2.2.2.2 r r0 r1
      rw [q]
      exact cj_Xm hC X0 hJ.2.1.2.2.2.1 (.inl ⟨rfl, rfl, fun j _ _ => by rw [rm_u_ne (by omega)]⟩) (.inl ⟨rfl, fun j _ _ => by rw [rm_u_ne (by omega)]⟩) (.inl ⟨rfl, fun j _ => by rw [rm_u_ne (by omega)]⟩) (.inl ⟨rfl, rfl, fun j _ => by rw [rm_u_ne (by omega)]⟩) (.inl ⟨rfl, rfl, fun j _ => by rw [rm_u_ne (by omega)]⟩) (.inl ⟨rfl, rfl, rfl, fun j _ => by rw [rm_u_ne (by omega)]⟩) (.inr XQ)))
  · refine M_fetch (d := 10) hC hJ.2.1 (fun v2 w2 i2 fr2 p1 p0 f78 f76 => ⟨v2, rfl, fun _ => ?_⟩)
    have p := p0 no
    rw [p.1]
    exact H 0 w2 (cj_ends hC hJ hJ.1 (fun _ _ => rfl) cj_Ce_rf ⟨rfl, rfl⟩ i2 fr2 f78 f76 (fun j _ => by rw [p.2]) (by rw [p.2]; exact X0))
theorem J_end {g : ch_G} {A R : Nat} (hC : ck_Cx g A R) {w : ck_W} {P : Int → Int → ck_W → Prop} (hJ : cj_J A R w) {a1 : Int} (H : ∀ v w2, cj_J A R w2 → P v v w2) : ck_CI (ch_C g A R) 11 mX11_end [.inr (.inr 0), .inl a1] w (fun v w1 => ck_CI (ch_C g A R) 11 mX12_end [.inr (.inr 76), .inl a1] w1 (fun v2 w2 => P v v2 w2)) := by
  have c := cs_ar hC
  obtain ⟨hI, hN, hK, hZ⟩ := id hJ.1
  obtain ⟨n1, ⟨n2, n3, n4⟩, n5, ⟨n6, n7⟩, n8, n9⟩ := id hN
  have cp := hJ.2.2.1
  have c0 := rm_c0 hJ.2.1.2.2.2.1
  have X0 := cp.2.2.2.2.2.2
  obtain ⟨et, er, ek⟩ := hJ.2.2.2.2
  have er1 := er.1
  have t0 := hZ.1.1
  refine C_end (d := 10) hC (fun ok => ?_) (fun no => ⟨_, rfl, fun _ => M2_end (d := 10) hC (fun ok => absurd (by rw [et.1]; exact ok) no) (fun _ => ⟨_, rfl, fun _ => H _ w hJ⟩)⟩)
  refine ⟨_, rfl, fun _ => M2_end (d := 10) hC (fun ok2 => ⟨_, rfl, fun _ => ?_⟩) (fun no => absurd (by show 0 ≤ a1 ∧ a1 ≤ w 76 16; rw [← et.1]; exact ok) no)⟩
  have e1 : ∀ k, k ≠ 67 → (ck_up w 67 1 a1) k = w k := fun k x => by rw [ck_up_ne x]
  have z1 : cs_Pz (ck_up w 67 1 a1) := ⟨⟨by rw [ck_up_eq]; omega, fun j j0 j1 => by rw [ck_up_eq] at j1; exact hZ.1.2 j j0 (by omega)⟩, hZ.2.1, hZ.2.2⟩
  have i2 : rm_I A R (ck_up (ck_up w 67 1 a1) 76 16 a1) := rm_Itaped (rm_I_fr hJ.2.1 (fun k hk => e1 k (by omega))) ok.1 (by omega)
  refine H _ _ (cj_end0 hC hJ ⟨cw_IV_fr hC hI (fun k hk => e1 k (by omega)), cj_N_fr hN (fun k a b => e1 k (by omega)), cj_N_fr hK (fun k a b => e1 (k + 24) (by omega)), z1⟩ (fun k hk => e1 k (by omega)) i2 (fun k hk => by rw [ck_up_ne (by omega)]) rfl (cj_C_fr hC cp hJ.2.1.2.2.2.1 (fun k a b => e1 k (by omega)) (fun _ _ => rfl)) ⟨⟨?_, fun j j0 j1 => ?_, et.2.2.1, et.2.2.2⟩, er, ek⟩)
  · simp [ck_up]
  · simp [ck_up] at j1
    exact et.2.1 j j0 (by omega)
def cj_tt (w x : ck_W) : Prop := w 67 1 = x 76 16 ∧ ∀ j, 0 ≤ j → j < w 67 1 → w 68 j = x 89 j
theorem cj_tby {w x : ck_W} {a s : Int} (h : cj_tt w x) : cj_tt (cs_by w a s) (rs_by x a s) := by
  obtain ⟨h1, h2⟩ := h
  unfold cs_by rs_by
  refine ⟨by rw [ck_up_eq, ck_up_eq, h1], fun j j0 j1 => ?_⟩
  rw [ck_up_eq] at j1
  rw [ck_up_ne (show 68 ≠ 67 by decide), ck_up_ne (show 89 ≠ 76 by decide), ck_up_at, ck_up_at, h1]
  by_cases e : j = x 76 16
  · rw [if_pos e, if_pos e]
  · rw [if_neg e, if_neg e]; exact h2 j j0 (by omega)
theorem cj_tfo {w x : ck_W} {a : Int} (h : cj_tt w x) : cj_tt (cs_four w a) (rs_four x a) := cj_tby (cj_tby (cj_tby (cj_tby h)))
theorem cj_cfo {w : ck_W} {a : Int} : ∀ j, j ≠ 1 → cs_four w a 67 j = w 67 j := fun j hj => by
  unfold cs_four cs_by
  simp [ck_up, hj]
theorem J_feed {g : ch_G} {A R : Nat} (hC : ck_Cx g A R) {w : ck_W} {P : Int → Int → ck_W → Prop} (hJ : cj_J A R w) {a1 a2 a3 a4 a5 : Int} (H : ∀ v w2, cj_J A R w2 → P v v w2) : ck_CI (ch_C g A R) 11 mX11_feed [.inr (.inr 0), .inl a1, .inl a2, .inl a3, .inl a4, .inl a5] w (fun v w1 => ck_CI (ch_C g A R) 11 mX12_feed [.inr (.inr 76), .inl a1, .inl a2, .inl a3, .inl a4, .inl a5] w1 (fun v2 w2 => P v v2 w2)) := by
  have c := cs_ar hC
  obtain ⟨hI, hN, hK, hZ⟩ := id hJ.1
  obtain ⟨n1, ⟨n2, n3, n4⟩, n5, ⟨n6, n7⟩, n8, n9⟩ := id hN
  have cp := hJ.2.2.1
  have c0 := rm_c0 hJ.2.1.2.2.2.1
  have X0 := cp.2.2.2.2.2.2
  obtain ⟨et, er, ek⟩ := hJ.2.2.2.2
  have er1 := er.1
  refine C_feed (d := 10) hC hZ.1.1.1 (fun ok => ?_) (fun no => ⟨_, rfl, fun _ => M2_feed (d := 10) hC hJ.2.1 (fun ok => absurd (by rw [et.1]; exact ok) no) (fun _ => ⟨_, rfl, fun _ => H _ w hJ⟩)⟩)
  have b1 := cj_four (a := a1) hZ (by omega)
  have b2 := cj_four (a := a2) b1.1 (by rw [b1.2.1]; omega)
  have b3 := cj_four (a := a3) b2.1 (by rw [b2.2.1, b1.2.1]; omega)
  have b4 := cj_four (a := a4) b3.1 (by rw [b3.2.1, b2.2.1, b1.2.1]; omega)
  have b5 := cj_four (a := a5) b4.1 (by rw [b4.2.1, b3.2.1, b2.2.1, b1.2.1]; omega)
  have e1 : ∀ k, k ≠ 67 → k ≠ 68 → (cs_four (cs_four (cs_four (cs_four (cs_four w a1) a2) a3) a4) a5) k = w k := fun k x y => by rw [b5.2.2 k x y, b4.2.2 k x y, b3.2.2 k x y, b2.2.2 k x y, b1.2.2 k x y]
  have f67 : ∀ j, j ≠ 1 → (cs_four (cs_four (cs_four (cs_four (cs_four w a1) a2) a3) a4) a5) 67 j = w 67 j := fun j hj => by rw [cj_cfo j hj, cj_cfo j hj, cj_cfo j hj, cj_cfo j hj, cj_cfo j hj]
  have tt : ∀ x : ck_W, cj_tt w x → cj_tt (cs_four (cs_four (cs_four (cs_four (cs_four w a1) a2) a3) a4) a5) (rs_four (rs_four (rs_four (rs_four (rs_four x a1) a2) a3) a4) a5) := fun x h => cj_tfo (cj_tfo (cj_tfo (cj_tfo (cj_tfo h))))
  have z1 := b5.1
  clear b1 b2 b3 b4 b5
  generalize (cs_four (cs_four (cs_four (cs_four (cs_four w a1) a2) a3) a4) a5) = w1 at *
  have e76 := e1 76 (by decide) (by decide)
  have T := tt w1 ⟨by rw [e76]; exact et.1, fun j j0 j1 => by rw [e1 89 (by decide) (by decide)]; exact et.2.1 j j0 j1⟩
  refine ⟨_, rfl, fun _ => M2_feed (d := 10) hC (rm_I_fr hJ.2.1 (fun k hk => e1 k (by omega) (by omega))) (fun ok2 i2 f76 fo => ⟨_, rfl, fun _ => ?_⟩) (fun no => absurd (by rw [e76, ← et.1]; exact ok) no)⟩
  generalize (rs_four (rs_four (rs_four (rs_four (rs_four w1 a1) a2) a3) a4) a5) = w2 at *
  have v : w1 76 16 + 20 = w 67 1 + 20 := by rw [e76, et.1]
  rw [v]
  have r77 : w2 77 = w 77 := (fo 77 (by decide) (by decide)).trans (e1 77 (by decide) (by decide))
  have r78 : w2 78 = w 78 := (fo 78 (by decide) (by decide)).trans (e1 78 (by decide) (by decide))
  refine H _ _ (cj_end0 hC hJ (w1 := w1) ⟨cw_IV_fr hC hI (fun k hk => e1 k (by omega) (by omega)), cj_N_fr hN (fun k a b => e1 k (by omega) (by omega)), cj_N_fr hK (fun k a b => e1 (k + 24) (by omega) (by omega)), z1⟩ (fun k hk => e1 k (by omega) (by omega)) i2 (fun k hk => fo k (by omega) (by omega)) (fo 78 (by decide) (by decide)) (by rw [r77]; exact cj_C_fr hC cp hJ.2.1.2.2.2.1 (fun k a b => e1 k (by omega) (by omega)) (fun _ _ => rfl)) ⟨⟨?_, ?_, ?_, ?_⟩, ?_, ?_⟩)
  · rw [fo 67 (by decide) (by decide)]; exact T.1
  · rw [fo 67 (by decide) (by decide), fo 68 (by decide) (by decide)]; exact T.2
  · rw [fo 67 (by decide) (by decide), f67 2 (by decide), f76 17 (by decide), e76]; exact et.2.2.1
  · rw [fo 67 (by decide) (by decide), f67 3 (by decide), f76 18 (by decide), e76]; exact et.2.2.2
  · rw [r77]
    unfold cj_r
    rw [fo 10 (by decide) (by decide), fo 13 (by decide) (by decide), e1 10 (by decide) (by decide), e1 13 (by decide) (by decide)]
    exact er
  · rw [r78]
    have q : cj_sh w2 10 = cj_sh w 10 := (fo 34 (by decide) (by decide)).trans (e1 34 (by decide) (by decide))
    have q2 : cj_sh w2 13 = cj_sh w 13 := (fo 37 (by decide) (by decide)).trans (e1 37 (by decide) (by decide))
    unfold cj_r
    rw [q, q2]
    exact ek
theorem J_reader {g : ch_G} {A R : Nat} (hC : ck_Cx g A R) {w : ck_W} {P : Int → Int → ck_W → Prop} (hJ : cj_J A R w) (H : ∀ v w2, cj_J A R w2 → P v v w2) : ck_CI (ch_C g A R) 11 mX11_reader [.inr (.inr 0)] w (fun v w1 => ck_CI (ch_C g A R) 11 mX12_reader [.inr (.inr 76)] w1 (fun v2 w2 => P v v2 w2)) := by
  have c := cs_ar hC
  obtain ⟨hI, hN, hK, hZ⟩ := id hJ.1
  obtain ⟨n1, ⟨n2, n3, n4⟩, n5, ⟨n6, n7⟩, n8, n9⟩ := id hN
  have cp := hJ.2.2.1
  have c0 := rm_c0 hJ.2.1.2.2.2.1
  have X0 := cp.2.2.2.2.2.2
  obtain ⟨et, er, ek⟩ := hJ.2.2.2.2
  have er1 := er.1
  have hb : w 77 0 ≤ 4 ∧ 0 ≤ w 77 0 := by have := c0.1; omega
  refine C2_reader (d := 2) hC hZ n6 (fun no => ⟨_, rfl, fun _ => M2_reader (d := 1) (b := tb (w 76 16) (w 89)) (s0 := fun _ _ => 0) hC hJ.2.1 ⟨rfl, fun j j0 j1 => ?_⟩ ⟨rfl, rfl, rfl, rfl, rfl, rfl⟩ (fun _ => ⟨_, rfl, fun _ => H _ w hJ⟩) (fun x => absurd (by have := er.1; omega) x)⟩) (fun lt v w1 s0 f z e h6 hz1 p0 po pf e1 e11 pv => ⟨v, rfl, fun _ => ?_⟩)
  · have q := et.2.1 j j0 (by rw [et.1]; exact j1)
    rw [← q]
    exact hZ.1.2 j j0 (by rw [et.1]; exact j1)
  have n4 : ¬ w 77 0 = 4 := by have := er.1; omega
  have e76 := e 76 (by decide) (by decide) (by decide) (by decide) (by decide) (by decide)
  have e77 := e 77 (by decide) (by decide) (by decide) (by decide) (by decide) (by decide)
  have e89 := e 89 (by decide) (by decide) (by decide) (by decide) (by decide) (by decide)
  have e5 : w1 10 5 = w 10 5 := by
    rcases pv with pv | pv
    · rw [pv.2.2.1]
    · rw [pv.2.2.1, rm_u_ne (by decide)]
  have tbe : tb (w 67 1) (w 68) = tb (w 76 16) (w 89) := by
    funext j
    unfold tb
    rw [et.1]
    by_cases q : 0 ≤ j ∧ j < w 76 16
    · rw [if_pos q, if_pos q]; exact et.2.1 j q.1 (by rw [et.1]; exact q.2)
    · rw [if_neg q, if_neg q]
  rw [tbe] at po
  have N1 : cj_N A R w1 := cj_Nm hN (.inl (by rw [e 3 (by decide) (by decide) (by decide) (by decide) (by decide) (by decide)])) (.inl (e 6 (by decide) (by decide) (by decide) (by decide) (by decide) (by decide))) (.inl (e 4 (by decide) (by decide) (by decide) (by decide) (by decide) (by decide))) (.inl (e 5 (by decide) (by decide) (by decide) (by decide) (by decide) (by decide))) (.inl ⟨e 8 (by decide) (by decide) (by decide) (by decide) (by decide) (by decide), e 9 (by decide) (by decide) (by decide) (by decide) (by decide) (by decide)⟩) (.inr h6) (.inl ⟨e5, e 14 (by decide) (by decide) (by decide) (by decide) (by decide) (by decide)⟩) (.inl ⟨e 15 (by decide) (by decide) (by decide) (by decide) (by decide) (by decide), e 16 (by decide) (by decide) (by decide) (by decide) (by decide) (by decide), e 17 (by decide) (by decide) (by decide) (by decide) (by decide) (by decide), e 18 (by decide) (by decide) (by decide) (by decide) (by decide) (by decide), e 19 (by decide) (by decide) (by decide) (by decide) (by decide) (by decide)⟩) (.inl ⟨e 20 (by decide) (by decide) (by decide) (by decide) (by decide) (by decide), e 21 (by decide) (by decide) (by decide) (by decide) (by decide) (by decide), e 22 (by decide) (by decide) (by decide) (by decide) (by decide) (by decide), e 23 (by decide) (by decide) (by decide) (by decide) (by decide) (by decide), e 24 (by decide) (by decide) (by decide) (by decide) (by decide) (by decide)⟩)
  have J1 : cj_JC A R w1 := ⟨cw_IV_fr hC hI (fun k hk => e k (by omega) (by omega) (by omega) (by omega) (by omega) (by omega)), N1, cj_N_fr hK (fun k a b => e (k + 24) (by omega) (by omega) (by omega) (by omega) (by omega) (by omega)), hz1⟩
  refine M2_reader (d := 1) (b := tb (w 76 16) (w 89)) (s0 := s0) hC (rm_I_fr hJ.2.1 (fun k hk => e k (by omega) (by omega) (by omega) (by omega) (by omega) (by omega))) ⟨by rw [e76, e89], fun j j0 j1 => ?_⟩ p0 (fun x => absurd (by rw [← e77]; exact x) n4) (fun n2 v2 w2 f2 z2 i2 fr2 f78 po2 f17 f16 f79 p => ⟨v2, rfl, fun _ => ?_⟩)
  · rw [e76] at j1
    rw [e89]
    have q := et.2.1 j j0 (by rw [et.1]; exact j1)
    rw [← q]
    exact hZ.1.2 j j0 (by rw [et.1]; exact j1)
  obtain ⟨nn, po'⟩ := po
  obtain ⟨mm, po2'⟩ := po2
  obtain ⟨u1, u2, u3⟩ := p_o_u po' po2'
  have g3 : w2 3 = w 3 := (fr2 3 (by omega)).trans (e 3 (by decide) (by decide) (by decide) (by decide) (by decide) (by decide))
  have vv : v = v2 := by
    rcases pv with pv | pv <;> rcases p with p | p
    · rw [pv.2.1, p.2.1]
    · exact absurd (u1.trans p.1) pv.1
    · exact absurd (u1.symm.trans pv.1) p.1
    · rw [pv.2.1, p.2.1, e77]; exact er.1
  have e2 : ∀ j, (1 ≤ j ∧ j < 1250) ∨ (1270 ≤ j ∧ j < 1430) → w2 77 j = w1 77 j := fun j hj => by
    rcases p with p | p
    · rw [p.2.2]
    · have w0 : w1 77 0 = w 77 0 := by rw [e77]
      rw [p.2.2.1, rm_u_ne (by omega), rm_u_ne (by omega)]
  rw [← vv]
  refine H v w2 (cj_end0 hC hJ J1 (fun k hk => e k (by omega) (by omega) (by omega) (by omega) (by omega) (by omega)) i2 (fun k hk => fr2 k (by omega)) f78 (cj_Cc hC cp hJ.2.1.2.2.2.1 ⟨by rw [e 3 (by decide) (by decide) (by decide) (by decide) (by decide) (by decide)], e 7 (by decide) (by decide) (by decide) (by decide) (by decide) (by decide), by rw [e 8 (by decide) (by decide) (by decide) (by decide) (by decide) (by decide)], e5, e 14 (by decide) (by decide) (by decide) (by decide) (by decide) (by decide), by rw [e 15 (by decide) (by decide) (by decide) (by decide) (by decide) (by decide)], by rw [e 15 (by decide) (by decide) (by decide) (by decide) (by decide) (by decide)], e 18 (by decide) (by decide) (by decide) (by decide) (by decide) (by decide), by rw [e 20 (by decide) (by decide) (by decide) (by decide) (by decide) (by decide)]⟩ (fun j hj => by rw [e2 j (by omega), e77]) (cj_Xk hC X0 hJ.2.1.2.2.2.1 (fun k hk => e k (by omega) (by omega) (by omega) (by omega) (by omega) (by omega)) (fun j hj => by rw [e2 j hj, e77]))) ⟨⟨?_, ?_, ?_, ?_⟩, ?_, ?_⟩)
  · rw [fr2 67 (by omega), e1, f16]
  · rw [fr2 67 (by omega), e1]
    exact fun j j0 j1 => by omega
  · rw [fr2 67 (by omega), pf, f17]; exact u1
  · rw [fr2 67 (by omega)]; exact u2
  · rcases pv with pv | pv <;> rcases p with p | p
    · unfold cj_r
      rw [fr2 10 (by omega), fr2 13 (by omega), pv.2.2.1, pv.2.2.2.2, p.2.2, e77]
      exact er
    · exact absurd (u1.trans p.1) pv.1
    · exact absurd (u1.symm.trans pv.1) p.1
    · have q0 : w2 77 0 = w 77 0 + 1 := by rw [p.2.2.1, rm_u_eq, e77]
      refine ⟨?_, fun r r0 r1 => ?_⟩
      · rw [fr2 10 (by omega), pv.2.2.1, rm_u_eq, q0, er.1]
      · rw [q0] at r1
        rw [fr2 13 (by omega), pv.2.2.2.2.1, p.2.2.1, e77, er.1, rm_u_ne (f := rm_u (w 77) (1260 + w 77 0) 0) (by omega)]
        by_cases x : r = w 77 0
        · rw [x, rm_u_eq, rm_u_eq]
        · rw [rm_u_ne x, rm_u_ne (by omega)]
          exact er.2 r r0 (by omega)
  · have q : cj_sh w2 10 = cj_sh w 10 := (fr2 34 (by omega)).trans (e 34 (by decide) (by decide) (by decide) (by decide) (by decide) (by decide))
    have q2 : cj_sh w2 13 = cj_sh w 13 := (fr2 37 (by omega)).trans (e 37 (by decide) (by decide) (by decide) (by decide) (by decide) (by decide))
    unfold cj_r
    rw [q, q2, f78, e 78 (by decide) (by decide) (by decide) (by decide) (by decide) (by decide)]
    exact ek
theorem J_image {g : ch_G} {A R : Nat} (hC : ck_Cx g A R) {w : ck_W} {P : Int → Int → ck_W → Prop} (hJ : cj_J A R w) (H : ∀ v w2, cj_J A R w2 → P v v w2) : ck_CI (ch_C g A R) 11 mX11_image [.inr (.inr 0)] w (fun v w1 => ck_CI (ch_C g A R) 11 mX12_image [.inr (.inr 76)] w1 (fun v2 w2 => P v v2 w2)) := by
  have c := cs_ar hC
  obtain ⟨hI, hN, hK, hZ⟩ := id hJ.1
  obtain ⟨n1, ⟨n2, n3, n4⟩, n5, ⟨n6, n7⟩, n8, n9⟩ := id hN
  have cp := hJ.2.2.1
  have c0 := rm_c0 hJ.2.1.2.2.2.1
  have X0 := cp.2.2.2.2.2.2
  have s3 := cp.2.1.1
  refine C_image (d := 6) hC (fun w1 e e27 q => ⟨_, rfl, fun _ => ?_⟩)
  have q1 : cs_eq A R w (cj_sh w1) 0 0 := q
  have J1 : cj_JC A R w1 := ⟨cw_IV_fr hC hI (fun k hk => e k (by omega)), cj_N_fr hN (fun k a b => e k (by omega)), cj_N_er hN q1, cs_Pz_fr hZ (fun k a b => e k (by omega))⟩
  refine M_image (d := 10) hC (rm_I_fr hJ.2.1 (fun k hk => e k (by omega))) (fun w2 i2 fr2 f2 p => ⟨_, rfl, fun _ => ?_⟩)
  have e77 := e 77 (by decide)
  rw [e77, ← s3]
  have f76 := f2 76 (by decide)
  have E13 : cj_r (cj_sh w1) (w 77) := by
    unfold cs_eq cs_er at q1
    simp only [Nat.add_zero] at q1
    have s103 : cj_sh w1 10 3 = w 10 3 := q1.2.2.2.2.2.2.2.1
    have e13 := q1.2.1.2.2.1
    have er := hJ.2.2.2.2.2.1
    refine ⟨s103.trans er.1, fun r r0 r1 => ?_⟩
    rw [e13 r r0 (by omega)]
    exact er.2 r r0 r1
  refine H _ w2 ⟨cj_JC_fr hC J1 fr2, i2, ?_, ?_, cj_t_fr hJ.2.2.2.2.1 (fun k hk => e k (by omega)) fr2 f76, ?_, ?_⟩
  rotate_left 2
  · rw [f2 77 (by decide), e77]
    unfold cj_r
    rw [fr2 10 (by omega), fr2 13 (by omega), e 10 (by decide), e 13 (by decide)]
    exact hJ.2.2.2.2.2.1
  · have q : cj_sh w2 10 = cj_sh w1 10 := fr2 34 (by omega)
    have q2 : cj_sh w2 13 = cj_sh w1 13 := fr2 37 (by omega)
    obtain ⟨x1, x2⟩ := E13
    refine ⟨?_, fun r r0 r1 => ?_⟩
    · rw [q, p 0 (by decide) (by decide), e77]; exact x1
    · rw [p 0 (by decide) (by decide), e77] at r1
      rw [q2, p _ (by omega) (by omega), e77]
      exact x2 r r0 r1
  · rw [f2 77 (by decide), e77]
    exact cj_C_fr hC cp hJ.2.1.2.2.2.1 (fun k a b => (fr2 k (by omega)).trans (e k (by omega))) (fun _ _ => rfl)
  · have y : cj_C A R (cj_sh w1) (w2 78) := cj_C_er hC cp hJ.2.1.2.2.2.1 q1 (fun j hj => by rw [p j (by omega) (by omega), e77])
    exact cj_C_fr hC y i2.2.2.2.2.1 (fun k a b => fr2 (k + 24) (by omega)) (fun _ _ => rfl)
theorem J_back {g : ch_G} {A R : Nat} (hC : ck_Cx g A R) {w : ck_W} {P : Int → Int → ck_W → Prop} (hJ : cj_J A R w) (H : ∀ v w2, cj_J A R w2 → P v v w2) : ck_CI (ch_C g A R) 11 mX11_back [.inr (.inr 0)] w (fun v w1 => ck_CI (ch_C g A R) 11 mX12_back [.inr (.inr 76)] w1 (fun v2 w2 => P v v2 w2)) := by
  have c := cs_ar hC
  obtain ⟨hI, hN, hK, hZ⟩ := id hJ.1
  obtain ⟨n1, ⟨n2, n3, n4⟩, n5, ⟨n6, n7⟩, n8, n9⟩ := id hN
  have cp := hJ.2.2.1
  have c0 := rm_c0 hJ.2.1.2.2.2.1
  have X0 := cp.2.2.2.2.2.2
  have ck := hJ.2.2.2.1
  have s3 : w 34 5 = w 78 3 := ck.2.1.1
  refine C_back (d := 6) hC (fun w1 e e3 z59 q => ⟨_, rfl, fun _ => ?_⟩)
  have q1 : cs_eq A R (cj_sh w) w1 0 0 := q
  have N1 : cj_N A R w1 := cj_N_er hK q1
  have J1 : cj_JC A R w1 := ⟨cw_IV_set hC hI (fun k h1 h2 h3 => e k (by omega)) ⟨by rw [e3.1]; exact hI.1.1.1, by rw [e3.2]; exact hI.1.1.2⟩ N1.2.1.1 N1.2.1.2.1 (fun z z0 z1 zn => absurd (z59 z z0 z1) zn), N1, cj_N_fr hK (fun k a b => e (k + 24) (by omega)), cs_Pz_fr hZ (fun k a b => e k (by omega))⟩
  refine M_back (d := 10) hC (rm_I_fr hJ.2.1 (fun k hk => e k (by omega))) (fun w2 i2 fr2 f2 p => ⟨_, rfl, fun _ => ?_⟩)
  have e78 := e 78 (by decide)
  rw [e78, ← s3]
  have f76 := f2 76 (by decide)
  have ck0 := rm_c0 hJ.2.1.2.2.2.2.1
  have E13 : cj_r w1 (w 78) := by
    unfold cs_eq cs_er at q1
    simp only [Nat.add_zero] at q1
    have s103 : w1 10 3 = cj_sh w 10 3 := q1.2.2.2.2.2.2.2.1
    have e13 := q1.2.1.2.2.1
    have er := hJ.2.2.2.2.2.2
    refine ⟨s103.trans er.1, fun r r0 r1 => ?_⟩
    rw [e13 r r0 (by omega)]
    exact er.2 r r0 r1
  refine H _ w2 ⟨cj_JC_fr hC J1 fr2, i2, ?_, ?_, cj_t_fr hJ.2.2.2.2.1 (fun k hk => e k (by omega)) fr2 f76, ?_, ?_⟩
  rotate_left 2
  · obtain ⟨x1, x2⟩ := E13
    refine ⟨?_, fun r r0 r1 => ?_⟩
    · rw [fr2 10 (by omega), p 0 (by decide) (by decide), e78]; exact x1
    · rw [p 0 (by decide) (by decide), e78] at r1
      rw [fr2 13 (by omega), p _ (by omega) (by omega), e78]
      exact x2 r r0 r1
  · exact cj_rk_fr hJ.2.2.2.2.2.2 (fun k hk => e k (by omega)) fr2 (f2 78 (by decide))
  · have y : cj_C A R w1 (w2 77) := cj_C_er hC ck hJ.2.1.2.2.2.2.1 q1 (fun j hj => by rw [p j (by omega) (by omega), e78])
    exact cj_C_fr hC y i2.2.2.2.1 (fun k a b => fr2 k (by omega)) (fun _ _ => rfl)
  · rw [f2 78 (by decide), e78]
    exact cj_C_fr hC ck hJ.2.1.2.2.2.2.1 (fun k a b => (fr2 (k + 24) (by omega)).trans (e (k + 24) (by omega))) (fun _ _ => rfl)
