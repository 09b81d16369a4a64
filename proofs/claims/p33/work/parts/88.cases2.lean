/-! ===== the law's cases, second half ===== -/
theorem cj_pin_up {A R : Nat} {g : ch_G} (hC : ck_Cx g A R) {u u' : ck_W} {f : Int → Int} {a1 a2 a3 : Int} (h : cj_p A u f) (hb : 0 ≤ f 1 ∧ f 1 ≤ 20) (e3 : u' 3 6 = f 1 + 1) (e7 : ∀ j, u' 7 j = if j = a1 * 24 + a2 then a3 else u 7 j) (pl : cs_pl A a1 a2) (h3 : 0 ≤ a3) : cj_p A u' (rm_u (rm_pinU f (f 1) a1 a2 a3) 1 (f 1 + 1)) := by
  have c := cs_ar hC
  unfold rm_pinU
  refine ⟨by rw [rm_u_eq]; exact e3, fun z p hz => ?_⟩
  have hz2 := hz
  have pl2 := pl
  unfold cs_pl at hz2 pl2
  rw [e7, rm_u_eq]
  by_cases e : z = a1 ∧ p = a2
  · rw [e.1, e.2, if_pos rfl]
    refine ⟨fun x => by omega, fun x => absurd ?_ (x (f 1) (by omega) (by omega))⟩
    rw [rm_u_ne (by omega), rm_u_ne (by omega), rm_u_ne (by omega), rm_u_eq, rm_u_ne (by omega), rm_u_ne (by omega), rm_u_eq]
    exact ⟨rfl, rfl⟩
  · rw [if_neg (by omega), h.2 z p hz]
    refine ⟨fun x k k0 k1 => ?_, fun x k k0 k1 => ?_⟩
    · by_cases q : k = f 1
      · rw [q, rm_u_ne (by omega), rm_u_ne (by omega), rm_u_ne (by omega), rm_u_eq, rm_u_ne (by omega), rm_u_ne (by omega), rm_u_eq]
        intro y
        exact e ⟨y.1.symm, y.2.symm⟩
      · rw [rm_u_ne (by omega), rm_u_ne (by omega), rm_u_ne (by omega), rm_u_ne (by omega), rm_u_ne (by omega), rm_u_ne (by omega), rm_u_ne (by omega), rm_u_ne (by omega)]
        exact x k k0 (by omega)
    · have y := x k k0 (by omega)
      rw [rm_u_ne (by omega), rm_u_ne (by omega), rm_u_ne (by omega), rm_u_ne (by omega), rm_u_ne (by omega), rm_u_ne (by omega), rm_u_ne (by omega), rm_u_ne (by omega)] at y
      exact y
theorem cj_bit_up {A R : Nat} {g : ch_G} (hC : ck_Cx g A R) {u u' : ck_W} {f : Int → Int} {a1 a2 a3 i q4 : Int} (h : cj_b A u f) (hb : 0 ≤ f 3 ∧ f 3 ≤ 60) (e3 : u' 10 5 = f 3 + 1) (e7 : ∀ j, u' 14 j = if j = a1 * 24 + a2 then a3 else u 14 j) (pl : cs_pl A a1 a2) (h3 : 0 ≤ a3) : cj_b A u' (rm_u (rm_bitU f (f 3) a1 a2 i q4) 3 (f 3 + 1)) := by
  have c := cs_ar hC
  unfold rm_bitU
  refine ⟨by rw [rm_u_eq]; exact e3, fun z p hz => ?_⟩
  have hz2 := hz
  have pl2 := pl
  unfold cs_pl at hz2 pl2
  rw [e7, rm_u_eq]
  by_cases e : z = a1 ∧ p = a2
  · rw [e.1, e.2, if_pos rfl]
    refine ⟨fun x => by omega, fun x => absurd ?_ (x (f 3) (by omega) (by omega))⟩
    rw [rm_u_ne (by omega), rm_u_ne (by omega), rm_u_ne (by omega), rm_u_ne (by omega), rm_u_eq, rm_u_ne (by omega), rm_u_ne (by omega), rm_u_ne (by omega), rm_u_eq]
    exact ⟨rfl, rfl⟩
  · rw [if_neg (by omega), h.2 z p hz]
    refine ⟨fun x k k0 k1 => ?_, fun x k k0 k1 => ?_⟩
    · by_cases q : k = f 3
      · rw [q, rm_u_ne (by omega), rm_u_ne (by omega), rm_u_ne (by omega), rm_u_ne (by omega), rm_u_eq, rm_u_ne (by omega), rm_u_ne (by omega), rm_u_ne (by omega), rm_u_eq]
        intro y
        exact e ⟨y.1.symm, y.2.symm⟩
      · rw [rm_u_ne (by omega), rm_u_ne (by omega), rm_u_ne (by omega), rm_u_ne (by omega), rm_u_ne (by omega), rm_u_ne (by omega), rm_u_ne (by omega), rm_u_ne (by omega), rm_u_ne (by omega), rm_u_ne (by omega)]
        exact x k k0 (by omega)
    · have y := x k k0 (by omega)
      rw [rm_u_ne (by omega), rm_u_ne (by omega), rm_u_ne (by omega), rm_u_ne (by omega), rm_u_ne (by omega), rm_u_ne (by omega), rm_u_ne (by omega), rm_u_ne (by omega), rm_u_ne (by omega), rm_u_ne (by omega)] at y
      exact y
theorem cj_bit_same {A R : Nat} {g : ch_G} (hC : ck_Cx g A R) {u u' : ck_W} {f : Int → Int} {a1 a2 a3 i q4 n : Int} (h : cj_b A u f) (hb : 0 ≤ f 3 ∧ f 3 ≤ 60) (e3 : u' 10 5 = u 10 5) (e7 : ∀ j, u' 14 j = if j = a1 * 24 + a2 then a3 else u 14 j) (pl : cs_pl A a1 a2) (h3 : 0 ≤ a3) (hn : 0 ≤ n ∧ n < f 3) (hr : f (1010 + 4 * n) = a1 ∧ f (1010 + 4 * n + 1) = a2) : cj_b A u' (rm_bitU f n a1 a2 i q4) := by
  have c := cs_ar hC
  have row : ∀ k, 0 ≤ k → k < f 3 → rm_bitU f n a1 a2 i q4 (1010 + 4 * k) = f (1010 + 4 * k) ∧ rm_bitU f n a1 a2 i q4 (1010 + 4 * k + 1) = f (1010 + 4 * k + 1) := by
    intro k k0 k1
    unfold rm_bitU
    by_cases q : k = n
    · rw [q, rm_u_ne (by omega), rm_u_ne (by omega), rm_u_ne (by omega), rm_u_eq, rm_u_ne (by omega), rm_u_ne (by omega), rm_u_eq]
      exact ⟨hr.1.symm, hr.2.symm⟩
    · rw [rm_u_ne (by omega), rm_u_ne (by omega), rm_u_ne (by omega), rm_u_ne (by omega), rm_u_ne (by omega), rm_u_ne (by omega), rm_u_ne (by omega), rm_u_ne (by omega)]
      exact ⟨rfl, rfl⟩
  have c3 : rm_bitU f n a1 a2 i q4 3 = f 3 := by
    unfold rm_bitU
    rw [rm_u_ne (by omega), rm_u_ne (by omega), rm_u_ne (by omega), rm_u_ne (by omega)]
  refine ⟨by rw [e3, c3]; exact h.1, fun z p hz => ?_⟩
  have hz2 := hz
  have pl2 := pl
  unfold cs_pl at hz2 pl2
  rw [e7, c3]
  have e9 : rm_noBit (rm_bitU f n a1 a2 i q4) (f 3) z p ↔ rm_noBit f (f 3) z p := by
    refine forall_congr' fun k => forall_congr' fun k0 => forall_congr' fun k1 => ?_
    rw [(row k k0 k1).1, (row k k0 k1).2]
  rw [e9]
  by_cases e : z = a1 ∧ p = a2
  · rw [e.1, e.2, if_pos rfl]
    exact ⟨fun x => by omega, fun x => absurd hr (x n hn.1 hn.2)⟩
  · rw [if_neg (by omega)]; exact h.2 z p hz
theorem cj_by {w : ck_W} {a s : Int} (h : cs_Pz w) (hs : w 67 1 < 300) : cs_Pz (cs_by w a s) ∧ cs_by w a s 67 1 = w 67 1 + 1 ∧ ∀ k, k ≠ 67 → k ≠ 68 → cs_by w a s k = w k := by
  unfold cs_by
  have t := h.1.1
  refine ⟨⟨⟨by rw [ck_up_eq]; omega, fun j j0 j1 => ?_⟩, h.2.1, h.2.2⟩, ck_up_eq, fun k a b => by rw [ck_up_ne a, ck_up_ne b]⟩
  rw [ck_up_eq] at j1
  rw [ck_up_ne (by decide), ck_up_at]
  split
  · exact ck_and255 _
  · exact h.1.2 j j0 (by omega)
theorem cj_four {w : ck_W} {a : Int} (h : cs_Pz w) (hs : w 67 1 + 4 ≤ 300) : cs_Pz (cs_four w a) ∧ cs_four w a 67 1 = w 67 1 + 4 ∧ ∀ k, k ≠ 67 → k ≠ 68 → cs_four w a k = w k := by
  unfold cs_four
  have b1 := cj_by (a := a) (s := 24) h (by omega)
  have b2 := cj_by (a := a) (s := 16) b1.1 (by rw [b1.2.1]; omega)
  have b3 := cj_by (a := a) (s := 8) b2.1 (by rw [b2.2.1, b1.2.1]; omega)
  have b4 := cj_by (a := a) (s := 0) b3.1 (by rw [b3.2.1, b2.2.1, b1.2.1]; omega)
  refine ⟨b4.1, by rw [b4.2.1, b3.2.1, b2.2.1, b1.2.1]; omega, fun k x y => ?_⟩
  rw [b4.2.2 k x y, b3.2.2 k x y, b2.2.2 k x y, b1.2.2 k x y]

theorem J_step {g : ch_G} {A R : Nat} (hC : ck_Cx g A R) {w : ck_W} {P : Int → Int → ck_W → Prop} (hJ : cj_J A R w) {a1 : Int} (H : ∀ v w2, cj_J A R w2 → P v v w2) : ck_CI (ch_C g A R) 11 mX11_step [.inr (.inr 0), .inl a1] w (fun v w1 => ck_CI (ch_C g A R) 11 mX12_step [.inr (.inr 76), .inl a1] w1 (fun v2 w2 => P v v2 w2)) := by
  have c := cs_ar hC
  obtain ⟨hI, hN, hK, hZ⟩ := id hJ.1
  obtain ⟨n1, ⟨n2, n3, n4⟩, n5, ⟨n6, n7⟩, n8, n9⟩ := id hN
  have cp := hJ.2.2.1
  have c0 := rm_c0 hJ.2.1.2.2.2.1
  have X0 := cp.2.2.2.2.2.2
  have s8 := cp.2.2.2.1
  refine C_step (d := 10) hC hI.1.1 n5.1 (fun ok => ⟨_, rfl, fun _ => ?_⟩) (fun no => ⟨_, rfl, fun _ => ?_⟩)
  · refine M_step (d := 9) hC (rm_I_fr hJ.2.1 (fun k hk => by rw [ck_up_ne (by omega), ck_up_ne (by omega)])) (fun v2 w2 i2 fr2 p1 p0 f78 f76 => ⟨v2, rfl, fun _ => ?_⟩)
    have p := p1 ⟨ok.1, by show w 77 2 < 30; omega⟩
    have q : w2 77 = rm_u (rm_u (w 77) (970 + w 77 2) a1) 2 (w 77 2 + 1) := p.2
    have v : v2 = w 8 1 + 1 := by rw [s8]; exact p.1
    have k5 : cs_K R (ck_up (ck_up w 9 (w 8 1) a1) 8 1 (w 8 1 + 1)) := by
      refine ⟨by rw [ck_up_eq]; omega, n5.2.1, fun t t0 t1 => ?_⟩
      rw [ck_up_eq] at t1
      rw [ck_up_ne (by decide), ck_up_at]
      split
      · exact ok.1
      · exact n5.2.2 t t0 (by omega)
    rw [v]
    refine H _ w2 (cj_end hC hJ (w1 := (ck_up (ck_up w 9 (w 8 1) a1) 8 1 (w 8 1 + 1))) (cj_JCs hJ.1 (cw_IV_fr hC hI (fun k hk => by rw [ck_up_ne (by omega), ck_up_ne (by omega)])) (cj_Nm hN (.inl rfl) (.inl rfl) (.inl rfl) (.inl rfl) (.inr k5) (.inl ⟨rfl, rfl, rfl⟩) (.inl ⟨rfl, rfl⟩) (.inl ⟨rfl, rfl, rfl, rfl, rfl⟩) (.inl ⟨rfl, rfl, rfl, rfl, rfl⟩)) (fun k hk => by rw [ck_up_ne (by omega), ck_up_ne (by omega)])) (fun k hk => by rw [ck_up_ne (by omega), ck_up_ne (by omega)]) i2 fr2 f78 ?_ ⟨rfl, rfl⟩ f76 (fun j hj => by rw [q, rm_u_ne (by omega), rm_u_ne (by omega)]; rfl))
    rw [q]
    have XK : cx_k (ck_up (ck_up w 9 (w 8 1) a1) 8 1 (w 8 1 + 1)) (rm_u (rm_u (w 77) (970 + w 77 2) a1) 2 (w 77 2 + 1)) := ⟨by rw [ck_up_nj (by decide), ck_up_ne (by decide), rm_u_ne (by decide), rm_u_ne (by omega)]; exact X0.2.2.2.1.1, fun t t0 t1 => by
      rw [rm_u_eq] at t1
      rw [ck_up_ne (by decide), ck_up_at, s8, rm_u_ne (by omega)]
      by_cases e : t = w 77 2
      · rw [if_pos e, e, rm_u_eq]
      · rw [if_neg e, rm_u_ne (by omega)]; exact X0.2.2.2.1.2 t t0 (by omega)⟩
    exact ⟨cj_p_fr hC cp.1 (by omega) rfl (fun _ _ _ => rfl) (fun j hj => by rw [rm_u_ne (by omega), rm_u_ne (by omega)]), cj_b_fr hC cp.2.1 (by omega) rfl (fun _ _ _ => rfl) (fun j hj => by rw [rm_u_ne (by omega), rm_u_ne (by omega)]), cj_w_fr cp.2.2.1 (by omega) rfl (fun _ _ _ => rfl) (fun j hj => by rw [rm_u_ne (by omega), rm_u_ne (by omega)]), by rw [ck_up_eq, rm_u_eq, s8], by rw [rm_u_ne (by omega), rm_u_ne (by omega)]; exact cp.2.2.2.2.1, by rw [rm_u_ne (by omega), rm_u_ne (by omega)]; exact cp.2.2.2.2.2.1, cj_Xm hC X0 hJ.2.1.2.2.2.1 (.inl ⟨rfl, rfl, fun j _ _ => by rw [rm_u_ne (by omega), rm_u_ne (by omega)]⟩) (.inl ⟨rfl, fun j _ _ => by rw [rm_u_ne (by omega), rm_u_ne (by omega)]⟩) (.inl ⟨rfl, fun j _ => by rw [rm_u_ne (by omega), rm_u_ne (by omega)]⟩) (.inr XK) (.inl ⟨rfl, rfl, fun j _ => by rw [rm_u_ne (by omega), rm_u_ne (by omega)]⟩) (.inl ⟨rfl, rfl, rfl, fun j _ => by rw [rm_u_ne (by omega), rm_u_ne (by omega)]⟩) (.inl ⟨rfl, rfl, rfl, rfl, fun j _ => by rw [rm_u_ne (by omega), rm_u_ne (by omega)]⟩)⟩
  · refine M_step (d := 9) hC hJ.2.1 (fun v2 w2 i2 fr2 p1 p0 f78 f76 => ⟨v2, rfl, fun _ => ?_⟩)
    have p := p0 (fun x => no ⟨x.1, by omega⟩)
    rw [p.1]
    exact H (-1) w2 (cj_ends hC hJ hJ.1 (fun _ _ => rfl) cj_Ce_rf ⟨rfl, rfl⟩ i2 fr2 f78 f76 (fun j _ => by rw [p.2]) (by rw [p.2]; exact X0))
theorem J_unwalk {g : ch_G} {A R : Nat} (hC : ck_Cx g A R) {w : ck_W} {P : Int → Int → ck_W → Prop} (hJ : cj_J A R w) (H : ∀ v w2, cj_J A R w2 → P v v w2) : ck_CI (ch_C g A R) 11 mX11_unwalk [.inr (.inr 0)] w (fun v w1 => ck_CI (ch_C g A R) 11 mX12_unwalk [.inr (.inr 76)] w1 (fun v2 w2 => P v v2 w2)) := by
  have c := cs_ar hC
  obtain ⟨hI, hN, hK, hZ⟩ := id hJ.1
  obtain ⟨n1, ⟨n2, n3, n4⟩, n5, ⟨n6, n7⟩, n8, n9⟩ := id hN
  have cp := hJ.2.2.1
  have c0 := rm_c0 hJ.2.1.2.2.2.1
  have X0 := cp.2.2.2.2.2.2
  have s8 := cp.2.2.2.1
  refine C_unwalk (d := 11) hC ⟨_, rfl, fun _ => ?_⟩
  refine M_unwalk (d := 11) hC (rm_I_fr hJ.2.1 (fun k hk => by rw [ck_up_ne (by omega)])) (fun v2 w2 i2 fr2 p1 p2 f78 f76 => ⟨v2, rfl, fun _ => ?_⟩)
  have q : w2 77 = rm_u (w 77) 2 0 := p2
  have v : v2 = w 8 1 := by rw [s8]; exact p1
  have k5 : cs_K R (ck_up w 8 1 0) := ⟨by rw [ck_up_eq]; omega, n5.2.1, fun t t0 t1 => by rw [ck_up_eq] at t1; omega⟩
  rw [v]
  refine H _ w2 (cj_end hC hJ (w1 := (ck_up w 8 1 0)) (cj_JCs hJ.1 (cw_IV_fr hC hI (fun k hk => by rw [ck_up_ne (by omega)])) (cj_Nm hN (.inl rfl) (.inl rfl) (.inl rfl) (.inl rfl) (.inr k5) (.inl ⟨rfl, rfl, rfl⟩) (.inl ⟨rfl, rfl⟩) (.inl ⟨rfl, rfl, rfl, rfl, rfl⟩) (.inl ⟨rfl, rfl, rfl, rfl, rfl⟩)) (fun k hk => by rw [ck_up_ne (by omega)])) (fun k hk => by rw [ck_up_ne (by omega)]) i2 fr2 f78 ?_ ⟨rfl, rfl⟩ f76 (fun j hj => by rw [q, rm_u_ne (by omega)]; rfl))
  rw [q]
  have XK : cx_k (ck_up w 8 1 0) (rm_u (w 77) 2 0) := ⟨by rw [ck_up_nj (by decide), rm_u_ne (by decide)]; exact X0.2.2.2.1.1, fun t t0 t1 => by
    rw [rm_u_eq] at t1
    omega⟩
  exact ⟨cj_p_fr hC cp.1 (by omega) rfl (fun _ _ _ => rfl) (fun j hj => by rw [rm_u_ne (by omega)]), cj_b_fr hC cp.2.1 (by omega) rfl (fun _ _ _ => rfl) (fun j hj => by rw [rm_u_ne (by omega)]), cj_w_fr cp.2.2.1 (by omega) rfl (fun _ _ _ => rfl) (fun j hj => by rw [rm_u_ne (by omega)]), by rw [ck_up_eq, rm_u_eq], by rw [rm_u_ne (by omega)]; exact cp.2.2.2.2.1, by rw [rm_u_ne (by omega)]; exact cp.2.2.2.2.2.1, cj_Xm hC X0 hJ.2.1.2.2.2.1 (.inl ⟨rfl, rfl, fun j _ _ => by rw [rm_u_ne (by omega)]⟩) (.inl ⟨rfl, fun j _ _ => by rw [rm_u_ne (by omega)]⟩) (.inl ⟨rfl, fun j _ => by rw [rm_u_ne (by omega)]⟩) (.inr XK) (.inl ⟨rfl, rfl, fun j _ => by rw [rm_u_ne (by omega)]⟩) (.inl ⟨rfl, rfl, rfl, fun j _ => by rw [rm_u_ne (by omega)]⟩) (.inl ⟨rfl, rfl, rfl, rfl, fun j _ => by rw [rm_u_ne (by omega)]⟩)⟩
theorem J_pin {g : ch_G} {A R : Nat} (hC : ck_Cx g A R) {w : ck_W} {P : Int → Int → ck_W → Prop} (hJ : cj_J A R w) {a1 a2 a3 : Int} (H : ∀ v w2, cj_J A R w2 → P v v w2) : ck_CI (ch_C g A R) 11 mX11_pin [.inr (.inr 0), .inl a1, .inl a2, .inl a3] w (fun v w1 => ck_CI (ch_C g A R) 11 mX12_pin [.inr (.inr 76), .inl a1, .inl a2, .inl a3] w1 (fun v2 w2 => P v v2 w2)) := by
  have c := cs_ar hC
  obtain ⟨hI, hN, hK, hZ⟩ := id hJ.1
  obtain ⟨n1, ⟨n2, n3, n4⟩, n5, ⟨n6, n7⟩, n8, n9⟩ := id hN
  have cp := hJ.2.2.1
  have c0 := rm_c0 hJ.2.1.2.2.2.1
  have X0 := cp.2.2.2.2.2.2
  have s3 := cp.1.1
  refine C_pin (d := 9) hC hI.1.1 n1 (fun ok => ⟨_, rfl, fun _ => ?_⟩) (fun no => ⟨_, rfl, fun _ => ?_⟩)
  · refine M_pin (d := 9) hC (rm_I_fr hJ.2.1 (fun k hk => by rw [ck_up_ne (by omega), ck_up_ne (by omega), ck_up_ne (by omega)])) (fun v2 w2 i2 fr2 f78 f76 p1 p0 => ⟨v2, rfl, fun _ => ?_⟩)
    have p := p1 ⟨ok.1.1, ok.1.2, by omega, by show w 77 1 < 20; omega, (cp.1.2 a1 a2 ok.1).mp ok.2.2.1⟩
    have q : w2 77 = rm_u (rm_pinU (w 77) (w 77 1) a1 a2 a3) 1 (w 77 1 + 1) := p.2
    have v : v2 = w 3 6 + 1 := by rw [s3]; exact p.1
    have pl := ok.1
    unfold cs_pl at pl
    rw [v]
    refine H _ w2 (cj_end hC hJ (w1 := (ck_up (ck_up (ck_up w 7 (a1 * 24 + a2) a3) 3 6 (w 3 6 + 1)) 59 a1 0)) (cj_JCs hJ.1 (cj_IVs hC hI (a1 := a1) (fun k h1 h2 h3 => by rw [ck_up_ne (by omega), ck_up_ne (by omega), ck_up_ne (by omega)]) (by rw [ck_up_row]; rfl) hI.1.1 n2 n3 (fun _ _ => rfl) (fun z p z0 z1 zn p0 p1 => by rw [ck_up_ne (by decide), ck_up_ne (by decide), ck_up_nj (by omega)]) (fun _ _ _ _ _ => rfl)) (cj_Nm hN (.inr (by rw [ck_up_ne (by decide), ck_up_eq]; omega)) (.inl rfl) (.inl rfl) (.inl rfl) (.inl ⟨rfl, rfl⟩) (.inl ⟨rfl, rfl, rfl⟩) (.inl ⟨rfl, rfl⟩) (.inl ⟨rfl, rfl, rfl, rfl, rfl⟩) (.inl ⟨rfl, rfl, rfl, rfl, rfl⟩)) (fun k hk => by rw [ck_up_ne (by omega), ck_up_ne (by omega), ck_up_ne (by omega)])) (fun k hk => by rw [ck_up_ne (by omega), ck_up_ne (by omega), ck_up_ne (by omega)]) i2 fr2 f78 ?_ ⟨rfl, rfl⟩ f76 (fun j hj => by rw [q]; unfold rm_pinU; rw [rm_u_ne (by omega), rm_u_ne (by omega), rm_u_ne (by omega), rm_u_ne (by omega)]; rfl))
    rw [q]
    have cc := cj_pin_up (u' := (ck_up (ck_up (ck_up w 7 (a1 * 24 + a2) a3) 3 6 (w 3 6 + 1)) 59 a1 0)) (a3 := a3) hC cp.1 (by omega) (by rw [ck_up_ne (by decide), ck_up_eq, s3]) (fun j => by rw [ck_up_ne (by decide), ck_up_ne (by decide), ck_up_at]) ok.1 (by omega)
    have un : ∀ j, j ≠ 1 → (j < 900 ∨ 960 ≤ j) → rm_u (rm_pinU (w 77) (w 77 1) a1 a2 a3) 1 (w 77 1 + 1) j = w 77 j := fun j h1 h2 => by unfold rm_pinU; rw [rm_u_ne h1, rm_u_ne (by omega), rm_u_ne (by omega), rm_u_ne (by omega)]
    have XP : cx_p (ck_up (ck_up (ck_up w 7 (a1 * 24 + a2) a3) 3 6 (w 3 6 + 1)) 59 a1 0) (rm_u (rm_pinU (w 77) (w 77 1) a1 a2 a3) 1 (w 77 1 + 1)) := by
      intro k k0 k1
      rw [rm_u_eq] at k1
      by_cases e : k = w 77 1
      · have x0 : rm_u (rm_pinU (w 77) (w 77 1) a1 a2 a3) 1 (w 77 1 + 1) (900 + 3 * w 77 1) = a1 := by unfold rm_pinU; rw [rm_u_ne (by omega), rm_u_ne (by omega), rm_u_ne (by omega), rm_u_eq]
        have x1 : rm_u (rm_pinU (w 77) (w 77 1) a1 a2 a3) 1 (w 77 1 + 1) (900 + 3 * w 77 1 + 1) = a2 := by unfold rm_pinU; rw [rm_u_ne (by omega), rm_u_ne (by omega), rm_u_eq]
        have x2 : rm_u (rm_pinU (w 77) (w 77 1) a1 a2 a3) 1 (w 77 1 + 1) (900 + 3 * w 77 1 + 2) = a3 := by unfold rm_pinU; rw [rm_u_ne (by omega), rm_u_eq]
        rw [e, x0, x1, x2, ck_up_ne (by decide), ck_up_ne (by decide), ck_up_eq]
      · have x0 : rm_u (rm_pinU (w 77) (w 77 1) a1 a2 a3) 1 (w 77 1 + 1) (900 + 3 * k) = w 77 (900 + 3 * k) := by unfold rm_pinU; rw [rm_u_ne (by omega), rm_u_ne (by omega), rm_u_ne (by omega), rm_u_ne (by omega)]
        have x1 : rm_u (rm_pinU (w 77) (w 77 1) a1 a2 a3) 1 (w 77 1 + 1) (900 + 3 * k + 1) = w 77 (900 + 3 * k + 1) := by unfold rm_pinU; rw [rm_u_ne (by omega), rm_u_ne (by omega), rm_u_ne (by omega), rm_u_ne (by omega)]
        have x2 : rm_u (rm_pinU (w 77) (w 77 1) a1 a2 a3) 1 (w 77 1 + 1) (900 + 3 * k + 2) = w 77 (900 + 3 * k + 2) := by unfold rm_pinU; rw [rm_u_ne (by omega), rm_u_ne (by omega), rm_u_ne (by omega), rm_u_ne (by omega)]
        rw [x0, x1, x2, ck_up_ne (by decide), ck_up_ne (by decide), ck_up_nj ?_]
        · exact X0.2.2.1 k k0 (by omega)
        · intro y
          have b0 := rm_pin0 hJ.2.1.2.2.2.1 (k := k) k0 (by omega)
          have b1 := rm_pin1 hJ.2.1.2.2.2.1 (k := k) k0 (by omega)
          exact (cp.1.2 a1 a2 ok.1).mp ok.2.2.1 k k0 (by omega) ⟨by omega, by omega⟩
    exact ⟨cc, cj_b_fr hC cp.2.1 (by omega) rfl (fun _ _ _ => rfl) (fun j hj => un j (by omega) (by omega)), cj_w_fr cp.2.2.1 (by omega) rfl (fun _ _ _ => rfl) (fun j hj => un j (by omega) (by omega)), by rw [un 2 (by omega) (by omega)]; exact cp.2.2.2.1, by rw [un 4 (by omega) (by omega)]; exact cp.2.2.2.2.1, by rw [un 6 (by omega) (by omega)]; exact cp.2.2.2.2.2.1, cj_Xm hC X0 hJ.2.1.2.2.2.1 (.inl ⟨rfl, rfl, fun j _ _ => un j (by omega) (by omega)⟩) (.inl ⟨rfl, fun j _ _ => un j (by omega) (by omega)⟩) (.inr XP) (.inl ⟨rfl, rfl, fun j _ => un j (by omega) (by omega)⟩) (.inl ⟨rfl, rfl, fun j _ => un j (by omega) (by omega)⟩) (.inl ⟨rfl, rfl, rfl, fun j _ => un j (by omega) (by omega)⟩) (.inl ⟨rfl, rfl, rfl, rfl, fun j _ => un j (by omega) (by omega)⟩)⟩
  · refine M_pin (d := 9) hC hJ.2.1 (fun v2 w2 i2 fr2 f78 f76 p1 p0 => ⟨v2, rfl, fun _ => ?_⟩)
    have p := p0 (fun x => no ⟨⟨x.1, x.2.1⟩, by omega, (cp.1.2 a1 a2 ⟨x.1, x.2.1⟩).mpr x.2.2.2.2, by omega⟩)
    rw [p.1]
    exact H (-1) w2 (cj_ends hC hJ hJ.1 (fun _ _ => rfl) cj_Ce_rf ⟨rfl, rfl⟩ i2 fr2 f78 f76 (fun j _ => by rw [p.2]) (by rw [p.2]; exact X0))
theorem J_bit {g : ch_G} {A R : Nat} (hC : ck_Cx g A R) {w : ck_W} {P : Int → Int → ck_W → Prop} (hJ : cj_J A R w) {a1 a2 a3 a4 : Int} (H : ∀ v w2, cj_J A R w2 → P v v w2) : ck_CI (ch_C g A R) 11 mX11_bit [.inr (.inr 0), .inl a1, .inl a2, .inl a3, .inl a4] w (fun v w1 => ck_CI (ch_C g A R) 11 mX12_bit [.inr (.inr 76), .inl a1, .inl a2, .inl a3, .inl a4] w1 (fun v2 w2 => P v v2 w2)) := by
  have c := cs_ar hC
  obtain ⟨hI, hN, hK, hZ⟩ := id hJ.1
  obtain ⟨n1, ⟨n2, n3, n4⟩, n5, ⟨n6, n7⟩, n8, n9⟩ := id hN
  have cp := hJ.2.2.1
  have c0 := rm_c0 hJ.2.1.2.2.2.1
  have X0 := cp.2.2.2.2.2.2
  have s3 := cp.2.1.1
  refine C_bit (d := 9) hC hI.1.1 n7.1 (fun ok o4 ob => ⟨_, rfl, fun _ => ?_⟩) (fun ok o4 ob ol => ⟨_, rfl, fun _ => ?_⟩) (fun no => ⟨_, rfl, fun _ => ?_⟩)
  · have bb : 0 ≤ (a4 * 2 + if a3 = 0 then 0 else 1) ∧ (a4 * 2 + if a3 = 0 then 0 else 1) ≤ 7 := by split <;> omega
    have pl := ok
    unfold cs_pl at pl
    have k7 : cs_B (ck_up w 14 (a1 * 24 + a2) (a4 * 2 + if a3 = 0 then 0 else 1)) := ⟨n7.1, fun j j0 j1 => by
      rw [ck_up_at]
      split
      · omega
      · exact n7.2 j j0 j1⟩
    refine M_bit (d := 9) hC (rm_I_fr hJ.2.1 (fun k hk => by rw [ck_up_ne (by omega)])) (fun v2 w2 i2 fr2 f78 f76 p => ⟨v2, rfl, fun _ => ?_⟩)
    have nb : ¬ rm_noBit (w 77) (w 77 3) a1 a2 := fun x => ob ((cp.2.1.2 a1 a2 ok).mpr x)
    have p2 : ∃ k, (0 ≤ k ∧ k < w 77 3) ∧ (w 77 (1010 + 4 * k) = a1 ∧ w 77 (1010 + 4 * k + 1) = a2) ∧ v2 = w 77 3 ∧ w2 77 = rm_bitU (w 77) k a1 a2 (if a3 = 0 then 0 else 1) a4 := by
      rcases p with p | ⟨_, p | p | p⟩
      · exact absurd ⟨ok.1, ok.2, o4⟩ p.2.2
      · have e60 : w 77 3 = 60 := p.2.2.1
        exact absurd (by rw [e60]; exact p.2.2.2) nb
      · exact p
      · exact absurd p.1 nb
    obtain ⟨k, hk, hr, hv, q⟩ := p2
    rw [hv, ← s3]
    refine H _ w2 (cj_end hC hJ (w1 := (ck_up w 14 (a1 * 24 + a2) (a4 * 2 + if a3 = 0 then 0 else 1))) (cj_JCs hJ.1 (cw_IV_fr hC hI (fun k hk => by rw [ck_up_ne (by omega)])) (cj_Nm hN (.inl rfl) (.inl rfl) (.inl rfl) (.inl rfl) (.inl ⟨rfl, rfl⟩) (.inl ⟨rfl, rfl, rfl⟩) (.inr k7) (.inl ⟨rfl, rfl, rfl, rfl, rfl⟩) (.inl ⟨rfl, rfl, rfl, rfl, rfl⟩)) (fun k hk => by rw [ck_up_ne (by omega)])) (fun k hk => by rw [ck_up_ne (by omega)]) i2 fr2 f78 ?_ ⟨rfl, rfl⟩ f76 (fun j hj => by rw [q]; unfold rm_bitU; rw [rm_u_ne (by omega), rm_u_ne (by omega), rm_u_ne (by omega), rm_u_ne (by omega)]; rfl))
    rw [q]
    have cc := cj_bit_same (u' := (ck_up w 14 (a1 * 24 + a2) (a4 * 2 + if a3 = 0 then 0 else 1))) (i := if a3 = 0 then 0 else 1) (q4 := a4) hC cp.2.1 (by omega) rfl (fun j => by rw [ck_up_at]) ok bb.1 hk hr
    have un : ∀ j, (j < 1010 ∨ 1250 ≤ j) → rm_bitU (w 77) k a1 a2 (if a3 = 0 then 0 else 1) a4 j = w 77 j := fun j h2 => by unfold rm_bitU; rw [rm_u_ne (by omega), rm_u_ne (by omega), rm_u_ne (by omega), rm_u_ne (by omega)]
    exact ⟨cj_p_fr hC cp.1 (by omega) rfl (fun _ _ _ => rfl) (fun j hj => un j (by omega)), cc, cj_w_fr cp.2.2.1 (by omega) rfl (fun _ _ _ => rfl) (fun j hj => un j (by omega)), by rw [un 2 (by omega)]; exact cp.2.2.2.1, by rw [un 4 (by omega)]; exact cp.2.2.2.2.1, by rw [un 6 (by omega)]; exact cp.2.2.2.2.2.1, cj_Xm hC X0 hJ.2.1.2.2.2.1 (.inl ⟨rfl, rfl, fun j _ _ => un j (by omega)⟩) (.inl ⟨rfl, fun j _ _ => un j (by omega)⟩) (.inl ⟨rfl, fun j _ => un j (by omega)⟩) (.inl ⟨rfl, rfl, fun j _ => un j (by omega)⟩) (.inl ⟨rfl, rfl, fun j _ => un j (by omega)⟩) (.inl ⟨rfl, rfl, rfl, fun j _ => un j (by omega)⟩) (.inl ⟨rfl, rfl, rfl, rfl, fun j _ => un j (by omega)⟩)⟩
  · have bb : 0 ≤ (a4 * 2 + if a3 = 0 then 0 else 1) ∧ (a4 * 2 + if a3 = 0 then 0 else 1) ≤ 7 := by split <;> omega
    have pl := ok
    unfold cs_pl at pl
    have k7 : cs_B (ck_up (ck_up w 10 5 (w 10 5 + 1)) 14 (a1 * 24 + a2) (a4 * 2 + if a3 = 0 then 0 else 1)) := ⟨by rw [ck_up_ne (by decide), ck_up_eq]; omega, fun j j0 j1 => by
      rw [ck_up_at]
      split
      · omega
      · rw [ck_up_ne (by decide)]; exact n7.2 j j0 j1⟩
    refine M_bit (d := 9) hC (rm_I_fr hJ.2.1 (fun k hk => by rw [ck_up_ne (by omega), ck_up_ne (by omega)])) (fun v2 w2 i2 fr2 f78 f76 p => ⟨v2, rfl, fun _ => ?_⟩)
    have nb : rm_noBit (w 77) (w 77 3) a1 a2 := (cp.2.1.2 a1 a2 ok).mp ob
    have p2 : v2 = w 77 3 + 1 ∧ w2 77 = rm_u (rm_bitU (w 77) (w 77 3) a1 a2 (if a3 = 0 then 0 else 1) a4) 3 (w 77 3 + 1) := by
      rcases p with p | ⟨_, p | ⟨k, p⟩ | p⟩
      · exact absurd ⟨ok.1, ok.2, o4⟩ p.2.2
      · have e60 : w 77 3 = 60 := p.2.2.1
        omega
      · exact absurd p.2.1 (nb k p.1.1 p.1.2)
      · exact p.2.2
    obtain ⟨hv, q⟩ := p2
    rw [hv, ← s3]
    refine H _ w2 (cj_end hC hJ (w1 := (ck_up (ck_up w 10 5 (w 10 5 + 1)) 14 (a1 * 24 + a2) (a4 * 2 + if a3 = 0 then 0 else 1))) (cj_JCs hJ.1 (cw_IV_fr hC hI (fun k hk => by rw [ck_up_ne (by omega), ck_up_ne (by omega)])) (cj_Nm hN (.inl rfl) (.inl rfl) (.inl rfl) (.inl rfl) (.inl ⟨rfl, rfl⟩) (.inl ⟨rfl, rfl, rfl⟩) (.inr k7) (.inl ⟨rfl, rfl, rfl, rfl, rfl⟩) (.inl ⟨rfl, rfl, rfl, rfl, rfl⟩)) (fun k hk => by rw [ck_up_ne (by omega), ck_up_ne (by omega)])) (fun k hk => by rw [ck_up_ne (by omega), ck_up_ne (by omega)]) i2 fr2 f78 ?_ ⟨rfl, rfl⟩ f76 (fun j hj => by rw [q]; unfold rm_bitU; rw [rm_u_ne (by omega), rm_u_ne (by omega), rm_u_ne (by omega), rm_u_ne (by omega), rm_u_ne (by omega)]; rfl))
    rw [q]
    have cc := cj_bit_up (u' := (ck_up (ck_up w 10 5 (w 10 5 + 1)) 14 (a1 * 24 + a2) (a4 * 2 + if a3 = 0 then 0 else 1))) (i := if a3 = 0 then 0 else 1) (q4 := a4) hC cp.2.1 (by omega) (by rw [ck_up_ne (by decide), ck_up_eq, s3]) (fun j => by rw [ck_up_at, ck_up_ne (by decide)]) ok bb.1
    have un : ∀ j, j ≠ 3 → (j < 1010 ∨ 1250 ≤ j) → rm_u (rm_bitU (w 77) (w 77 3) a1 a2 (if a3 = 0 then 0 else 1) a4) 3 (w 77 3 + 1) j = w 77 j := fun j h1 h2 => by unfold rm_bitU; rw [rm_u_ne h1, rm_u_ne (by omega), rm_u_ne (by omega), rm_u_ne (by omega), rm_u_ne (by omega)]
    exact ⟨cj_p_fr hC cp.1 (by omega) rfl (fun _ _ _ => rfl) (fun j hj => un j (by omega) (by omega)), cc, cj_w_fr cp.2.2.1 (by omega) rfl (fun _ _ _ => rfl) (fun j hj => un j (by omega) (by omega)), by rw [un 2 (by omega) (by omega)]; exact cp.2.2.2.1, by rw [un 4 (by omega) (by omega)]; exact cp.2.2.2.2.1, by rw [un 6 (by omega) (by omega)]; exact cp.2.2.2.2.2.1, cj_Xm hC X0 hJ.2.1.2.2.2.1 (.inl ⟨rfl, rfl, fun j _ _ => un j (by omega) (by omega)⟩) (.inl ⟨rfl, fun j _ _ => un j (by omega) (by omega)⟩) (.inl ⟨rfl, fun j _ => un j (by omega) (by omega)⟩) (.inl ⟨rfl, rfl, fun j _ => un j (by omega) (by omega)⟩) (.inl ⟨rfl, rfl, fun j _ => un j (by omega) (by omega)⟩) (.inl ⟨rfl, rfl, rfl, fun j _ => un j (by omega) (by omega)⟩) (.inl ⟨rfl, rfl, rfl, rfl, fun j _ => un j (by omega) (by omega)⟩)⟩
  · refine M_bit (d := 9) hC hJ.2.1 (fun v2 w2 i2 fr2 f78 f76 p => ⟨v2, rfl, fun _ => ?_⟩)
    have p2 : v2 = -1 ∧ w2 77 = w 77 := by
      rcases p with p | ⟨o, p | ⟨k, p⟩ | p⟩
      · exact ⟨p.1, by rw [p.2.1]⟩
      · exact ⟨p.1, by rw [p.2.1]⟩
      · refine absurd ⟨⟨o.1, o.2.1⟩, o.2.2, fun x => ?_⟩ no
        exact absurd p.2.1 ((cp.2.1.2 a1 a2 ⟨o.1, o.2.1⟩).mp x k p.1.1 p.1.2)
      · exact absurd ⟨⟨o.1, o.2.1⟩, o.2.2, fun _ => by omega⟩ no
    have p := p2
    rw [p.1]
    exact H (-1) w2 (cj_ends hC hJ hJ.1 (fun _ _ => rfl) cj_Ce_rf ⟨rfl, rfl⟩ i2 fr2 f78 f76 (fun j _ => by rw [p.2]) (by rw [p.2]; exact X0))
