/-! ===== the first world: the coupling holds ===== -/
def zw (A R : Nat) (wz wm : ck_W) : ck_W := fun k => if k < 76 then zw11 A R wz k else wm (k - 76)
def zad (a1 a2 : Nat → Nat) : Nat → Nat := fun k => if k < 76 then a1 k else a2 (k - 76)
set_option maxRecDepth 20000 in
set_option maxHeartbeats 4000000 in
theorem zE97 {X : ch_X} {A R : Nat} {wz wm : ck_W} {a1 a2 : Nat → Nat} : ch_ws (cn_X X a1 (cz11 A R)) (ck_w (zw11 A R wz)) ++ ch_ws (cn_X X a2 (cz12 A R)) (ck_w wm) = ch_ws (cn_X X (zad a1 a2) (ch_sh A R)) (ck_w (zw A R wz wm)) := by
  rw [ch_ws_wl, ch_ws_wl, ch_ws_wl]
  rfl
theorem zR10_i {A R : Nat} {wz : ck_W} (hA : 3 ≤ A ∧ A ≤ 6) (hR : 4 ≤ R ∧ R ≤ 12) (hz : zR10 A R wz) : ∀ k j, ck_i (wz k j) := by
  obtain ⟨i, z2, z3, z4, z5, z6⟩ := hz
  have hN := cw_Nb hA
  have b : ∀ k j, ck_i (zw10 A R k j) := by
    intro k j
    refine z_getW (fun f hf j => ?_) k j
    simp only [List.mem_cons, List.not_mem_nil, or_false] at hf
    rcases hf with rfl | rfl
    · refine z_getD (fun x hx => ?_) _
      simp only [List.mem_cons, List.not_mem_nil, or_false] at hx
      rcases hx with rfl | rfl <;> exact ⟨by omega, by omega⟩
    · refine z_getD (fun x hx => ?_) _
      simp only [List.mem_cons, List.not_mem_nil, or_false] at hx
      rcases hx with rfl | rfl <;> exact ⟨by omega, by omega⟩
  intro k j
  by_cases h0 : k = 0
  · subst h0
    by_cases h7 : j = 7
    · subst h7
      have := i.2.2.2.2.1
      exact ⟨by omega, by omega⟩
    · rw [z3 j h7]; exact b 0 j
  · by_cases h : k = 7 ∨ k = 8 ∨ k = 9 ∨ k = 10 ∨ k = 11 ∨ k = 13
    · rcases h with rfl | rfl | rfl | rfl | rfl | rfl <;> exact (z6 _ j).2 rfl
    · rw [z2 k h0 (by omega) (by omega) (by omega) (by omega) (by omega) (by omega)]; exact b k j
theorem z12_i (j : Int) : ck_i (z12 j) := by
  unfold z12
  split
  · decide
  · split
    · decide
    · split
      · decide
      · split <;> decide
theorem zR12_i {A R : Nat} {wm : ck_W} (hA : 3 ≤ A ∧ A ≤ 6) (hR : 4 ≤ R ∧ R ≤ 12) (hm : zR12 A R wm) : ∀ k j, ck_i (wm k j) := by
  obtain ⟨m1, m2, m3, m4, m5, m6, m7, m8⟩ := hm
  have hN := cw_Nb hA
  have b : ∀ k j, ck_i (zw12 k j) := by
    intro k j
    refine z_getW (fun f hf j => ?_) k j
    simp only [List.mem_cons, List.not_mem_nil, or_false] at hf
    subst hf
    exact z_getD (by decide) _
  intro k j
  by_cases h0 : k = 0
  · subst h0
    by_cases j0 : j = 0
    · rw [j0, m3]; exact ⟨by omega, by omega⟩
    · by_cases j1 : j = 1
      · rw [j1, m4]; exact ⟨by omega, by omega⟩
      · by_cases j2 : j = 2
        · rw [j2, m5]; exact ⟨by omega, by omega⟩
        · rw [m2 j j0 j1 j2]; exact b 0 j
  · by_cases h1 : k = 1
    · rw [h1, m6]; exact z12_i j
    · by_cases h2 : k = 2
      · rw [h2]; exact (m8 2 j).2 rfl
      · rw [m1 k h0 h1 h2]; exact b k j
theorem zw_i {A R : Nat} {wz wm : ck_W} (hA : 3 ≤ A ∧ A ≤ 6) (hR : 4 ≤ R ∧ R ≤ 12) (hz : zR10 A R wz) (hm : zR12 A R wm) : ∀ k j, ck_i (zw A R wz wm k j) := by
  intro k j
  unfold zw
  by_cases h : k < 76
  · rw [if_pos h]; exact zw11_i hA hR (zR10_i hA hR hz) k j
  · rw [if_neg h]; exact zR12_i hA hR hm _ _
theorem zN0 {A R : Nat} {u : ck_W} (hR : 4 ≤ R) (a : u 3 6 = 0) (b : u 6 = fun _ => 2) (c : u 4 = fun _ => 0) (e : u 5 = fun _ => 0) (f1 : u 8 1 = 0) (f2 : u 8 2 = 5) (g1 : u 10 3 = 0) (g2 : u 10 5 = 0) (h : u 14 = fun _ => -1) (l2 : u 15 2 = 0) (l5 : u 15 5 = 0) (l6 : u 15 6 = 3) (l7 : u 15 7 = 1) (q : u 20 3 = 0) (r : u 24 = fun _ => 0) : cj_N A R u := by
  refine ⟨by rw [a]; decide, ⟨fun z _ _ => by rw [b]; exact (show (1 : Int) ≤ 2 ∧ (2 : Int) ≤ 4 by decide), fun j _ _ => by rw [c]; exact (show (0 : Int) ≤ 0 ∧ (0 : Int) ≤ 9 by decide), fun j _ _ => by rw [e]; exact (show (0 : Int) ≤ 0 ∧ (0 : Int) ≤ 9 by decide)⟩, ⟨by rw [f1]; decide, by rw [f2]; decide, fun t t0 t1 => by rw [f1] at t1; omega⟩, ⟨⟨by rw [g1]; decide, fun r r0 r1 => by rw [g1] at r1; omega⟩, by rw [g2]; decide, fun j _ _ => by rw [h]; exact (show (-1 : Int) ≤ -1 ∧ (-1 : Int) ≤ 7 by decide)⟩, ⟨⟨by rw [l2]; decide, fun k k0 k1 => by rw [l2] at k1; omega⟩, fun k k0 k1 => by rw [l2] at k1; omega, ⟨by rw [l6]; decide, by rw [l7]; decide⟩, by rw [l5]; decide, fun k k0 k1 => by rw [l5] at k1; omega⟩, by rw [q]; decide, fun k k0 k1 => by rw [q] at k1; omega, fun k _ _ => by rw [r]; exact (show (0 : Int) ≤ 0 ∧ (0 : Int) ≤ 50 by decide)⟩
theorem zC0 {A R : Nat} {u : ck_W} {f : Int → Int} (a : u 3 6 = 0) (b : u 7 = fun _ => -1) (f1 : u 8 1 = 0) (g2 : u 10 5 = 0) (h : u 14 = fun _ => -1) (l2 : u 15 2 = 0) (l5 : u 15 5 = 0) (q : u 20 3 = 0) (e1 : f 1 = 0) (e2 : f 2 = 0) (e3 : f 3 = 0) (e4 : f 4 = 0) (e5 : f 5 = 0) (e6 : f 6 = 0) (hX : cj_X A R u f) : cj_C A R u f := by
  refine ⟨⟨by rw [a, e1], fun z p _ => ⟨fun _ k k0 k1 => by rw [e1] at k1; omega, fun _ => by rw [b]⟩⟩, ⟨by rw [g2, e3], fun z p _ => ⟨fun _ k k0 k1 => by rw [e3] at k1; omega, fun _ => by rw [h]⟩⟩, ⟨by rw [l5, e5], fun k k0 k1 => by rw [e5] at k1; omega⟩, by rw [f1, e2], by rw [l2, e4], by rw [q, e6], hX⟩
theorem zA0 {A R : Nat} {f : Int → Int} (hA : 3 ≤ A ∧ A ≤ 6) (hR : 4 ≤ R ∧ R ≤ 12) (h : ∀ j, 0 ≤ j → j < 1430 → f j = z12 j) : rm_A A R f := by
  refine ⟨fun j j0 j1 => ?_, fun k k0 k1 => ?_, fun k k0 k1 => ?_⟩
  · rw [h j j0 j1]
    by_cases q : j < 16
    · have : j = 0 ∨ j = 1 ∨ j = 2 ∨ j = 3 ∨ j = 4 ∨ j = 5 ∨ j = 6 ∨ j = 7 ∨ j = 8 ∨ j = 9 ∨ j = 10 ∨ j = 11 ∨ j = 12 ∨ j = 13 ∨ j = 14 ∨ j = 15 := by omega
      rcases this with rfl | rfl | rfl | rfl | rfl | rfl | rfl | rfl | rfl | rfl | rfl | rfl | rfl | rfl | rfl | rfl <;> exact ⟨by decide, by simp [z12, rm_hi]⟩
    · have e : z12 j = 0 := by
        unfold z12
        rw [if_neg (by omega), if_neg (by omega), if_neg (by omega), if_neg (by omega)]
      rw [e]
      constructor
      · unfold rm_lo
        split
        · omega
        · split <;> omega
      · unfold rm_hi
        repeat' split
        all_goals omega
  · rw [h 4 (by decide) (by decide)] at k1
    exact absurd k1 (by show ¬ k < 0; omega)
  · rw [h 5 (by decide) (by decide)] at k1
    exact absurd k1 (by show ¬ k < 0; omega)
theorem zIV0 {A R : Nat} {wz wm : ck_W} (hA : 3 ≤ A ∧ A ≤ 6) (hR : 4 ≤ R ∧ R ≤ 12) (hz : zR10 A R wz) : cw_IV A R (zw A R wz wm) := by
  obtain ⟨⟨i1, i2, i3, i4, i5, i6, i7⟩, z2, z3, z4, z5, z6⟩ := hz
  have hN := cw_Nb hA
  have e1 : wz 1 = zw10 A R 1 := z2 1 (by decide) (by decide) (by decide) (by decide) (by decide) (by decide) (by decide)
  have e2 : wz 2 = zw10 A R 2 := z2 2 (by decide) (by decide) (by decide) (by decide) (by decide) (by decide) (by decide)
  have e3 : wz 3 = zw10 A R 3 := z2 3 (by decide) (by decide) (by decide) (by decide) (by decide) (by decide) (by decide)
  have e4 : wz 4 = zw10 A R 4 := z2 4 (by decide) (by decide) (by decide) (by decide) (by decide) (by decide) (by decide)
  have e5 : wz 5 = zw10 A R 5 := z2 5 (by decide) (by decide) (by decide) (by decide) (by decide) (by decide) (by decide)
  refine ⟨⟨⟨?_, ?_⟩, fun z _ _ => (show (1 : Int) ≤ 2 ∧ (2 : Int) ≤ 4 by decide), fun j _ _ => (show (0 : Int) ≤ 0 ∧ (0 : Int) ≤ 9 by decide)⟩, ⟨⟨i1, i3, i5, i6, i7⟩, fun l r c l1 r0 r1 c0 c1 _ => ?_, fun r c r0 r1 c0 c1 => ?_⟩, fun j _ _ => ?_, fun z _ _ => ?_, fun z _ _ q => ?_⟩
  · show wz 1 0 = (A : Int)
    rw [e1]; rfl
  · show wz 1 1 = (R : Int)
    rw [e1]; rfl
  · show wz 13 ((l * (R : Int) + r) * cw_N A + c) = 0
    have a := Int.mul_le_mul_of_nonneg_right (show 1 ≤ l from l1) (show (0 : Int) ≤ (R : Int) by omega)
    rw [Int.one_mul] at a
    have b := Int.mul_le_mul_of_nonneg_right (show (R : Int) ≤ l * (R : Int) + r by omega) (show 0 ≤ cw_N A by omega)
    rw [z5 _ (by omega)]
    rfl
  · show wz 13 (r * cw_N A + c) = 1
    have a := Int.mul_le_mul_of_nonneg_right (show r + 1 ≤ (R : Int) by omega) (show 0 ≤ cw_N A by omega)
    rw [Int.add_mul, Int.one_mul] at a
    have b := Int.mul_nonneg r0 (show 0 ≤ cw_N A by omega)
    exact z4 _ (by omega) (by omega)
  · show 0 ≤ wz 5 j ∧ wz 5 j < (R : Int)
    rw [e5]
    show (0 : Int) ≤ 0 ∧ (0 : Int) < (R : Int)
    omega
  · show (0 ≤ wz 3 z ∧ wz 3 z ≤ 216) ∧ (0 ≤ wz 4 z ∧ wz 4 z ≤ 1000000)
    rw [e3, e4]
    exact (show ((0 : Int) ≤ 0 ∧ (0 : Int) ≤ 216) ∧ ((0 : Int) ≤ 0 ∧ (0 : Int) ≤ 1000000) by decide)
  · exact absurd (show wz 2 z = 0 by rw [e2]; rfl) q
theorem zX0 {A R : Nat} {u : ck_W} {f : Int → Int} (h : ∀ j, 0 ≤ j → j < 1430 → f j = z12 j) (c : u 4 = fun _ => 0) (e : u 5 = fun _ => 0) (b : u 6 = fun _ => 2) (f2 : u 8 2 = 5) (l6 : u 15 6 = 3) (l7 : u 15 7 = 1) (r : u 24 = fun _ => 0) (hA : 3 ≤ A ∧ A ≤ 6) (hR : 4 ≤ R ∧ R ≤ 12) : cj_X A R u f := by
  have z0 : ∀ j, 16 ≤ j → j < 1430 → f j = 0 := fun j a b => by
    rw [h j (by omega) b]
    unfold z12
    rw [if_neg (by omega), if_neg (by omega), if_neg (by omega), if_neg (by omega)]
  have e1 : f 1 = 0 := h 1 (by decide) (by decide)
  have e2 : f 2 = 0 := h 2 (by decide) (by decide)
  have e4 : f 4 = 0 := h 4 (by decide) (by decide)
  have e5 : f 5 = 0 := h 5 (by decide) (by decide)
  have e6 : f 6 = 0 := h 6 (by decide) (by decide)
  have e7 : f 7 = 5 := h 7 (by decide) (by decide)
  have e8 : f 8 = 3 := h 8 (by decide) (by decide)
  have e9 : f 9 = 1 := h 9 (by decide) (by decide)
  refine ⟨fun z a q o => ?_, fun z z0' z1 => ?_, fun k k0 k1 => by omega, ⟨by rw [f2, e7], fun t t0 t1 => by omega⟩, fun k k0 k1 => by omega, ⟨⟨by rw [l6, e8], by rw [l7, e9]⟩, fun k k0 k1 => by omega⟩, fun k k0 k1 => by omega, fun k k0 k1 => ?_⟩
  · obtain ⟨o1, o2, o3⟩ := o
    rw [c, e, z0 _ (by omega) (by omega), z0 _ (by omega) (by omega)]
    exact ⟨rfl, rfl⟩
  · rw [b, h _ (by omega) (by omega)]
    unfold z12
    rw [if_neg (by omega), if_neg (by omega), if_neg (by omega), if_pos (by omega)]
  · rw [r, z0 _ (by omega) (by omega)]
theorem zJ0 {A R : Nat} {wz wm : ck_W} (hA : 3 ≤ A ∧ A ≤ 6) (hR : 4 ≤ R ∧ R ≤ 12) (hz : zR10 A R wz) (hm : zR12 A R wm) : cj_J A R (zw A R wz wm) := by
  have e1 : wz 1 = zw10 A R 1 := hz.2.1 1 (by decide) (by decide) (by decide) (by decide) (by decide) (by decide) (by decide)
  have w36 : zw A R wz wm 3 6 = 0 := by show wz 1 6 = 0; rw [e1]; rfl
  obtain ⟨m1, m2, m3, m4, m5, m6, m7, m8⟩ := hm
  have hb : ∀ j, 0 ≤ j → j < 1430 → zw A R wz wm 77 j = z12 j := fun j _ _ => m6 j
  have hi : ∀ j, 0 ≤ j → j < 1430 → zw A R wz wm 78 j = z12 j := fun j a b => m7 j a b
  have h70 : zw A R wz wm 77 0 = 0 := hb 0 (by decide) (by decide)
  refine ⟨⟨zIV0 hA hR hz, zN0 hR.1 w36 rfl rfl rfl rfl rfl rfl rfl rfl rfl rfl rfl rfl rfl rfl, zN0 hR.1 rfl rfl rfl rfl rfl rfl rfl rfl rfl rfl rfl rfl rfl rfl rfl, ?_⟩, ⟨m3, m4, m5, zA0 hA hR hb, zA0 hA hR hi, ?_, ⟨?_, ?_⟩, ?_, fun r r0 r1 => ?_⟩, zC0 w36 rfl rfl rfl rfl rfl rfl rfl (hb 1 (by decide) (by decide)) (hb 2 (by decide) (by decide)) (hb 3 (by decide) (by decide)) (hb 4 (by decide) (by decide)) (hb 5 (by decide) (by decide)) (hb 6 (by decide) (by decide)) (zX0 hb rfl rfl rfl rfl rfl rfl rfl hA hR), zC0 rfl rfl rfl rfl rfl rfl rfl rfl (hi 1 (by decide) (by decide)) (hi 2 (by decide) (by decide)) (hi 3 (by decide) (by decide)) (hi 4 (by decide) (by decide)) (hi 5 (by decide) (by decide)) (hi 6 (by decide) (by decide)) (zX0 hi rfl rfl rfl rfl rfl rfl rfl hA hR), ⟨?_, fun j j0 j1 => absurd j1 (show ¬ j < 0 by omega), ?_, ?_⟩, ⟨?_, fun r r0 r1 => ?_⟩, ⟨?_, fun r r0 r1 => ?_⟩⟩
  · refine ⟨⟨(show (0 : Int) ≤ 0 ∧ (0 : Int) ≤ 300 by decide), fun j j0 j1 => absurd j1 (show ¬ j < 0 by omega)⟩, (show ((0 : Int) ≤ 0 ∧ (0 : Int) ≤ 22) ∧ ((0 : Int) ≤ 0 ∧ (0 : Int) ≤ 10000) ∧ ((0 : Int) ≤ 0 ∧ (0 : Int) ≤ 300) ∧ ((0 : Int) ≤ 0 ∧ (0 : Int) ≤ 22) by decide), fun i _ _ => (show (0 : Int) ≤ 0 ∧ (0 : Int) ≤ 22 by decide)⟩
  · rw [hi 0 (by decide) (by decide), h70]; decide
  · show 0 ≤ wm 0 16
    rw [m2 16 (by decide) (by decide) (by decide)]; decide
  · show 0 ≤ wm 0 22
    rw [m2 22 (by decide) (by decide) (by decide)]; decide
  · show wm 0 16 ≤ 300
    rw [m2 16 (by decide) (by decide) (by decide)]; decide
  · rw [h70] at r1
    omega
  · show (0 : Int) = wm 0 16
    rw [m2 16 (by decide) (by decide) (by decide)]; rfl
  · show (-1 : Int) = wm 0 17
    rw [m2 17 (by decide) (by decide) (by decide)]; rfl
  · show (-1 : Int) = wm 0 18
    rw [m2 18 (by decide) (by decide) (by decide)]; rfl
  · rw [h70]; rfl
  · rw [h70] at r1; omega
  · rw [hi 0 (by decide) (by decide)]; rfl
  · rw [hi 0 (by decide) (by decide)] at r1
    exact absurd r1 (show ¬ r < 0 by omega)
