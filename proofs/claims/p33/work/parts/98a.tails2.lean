/-! ===== describe; the tails of two constructors ===== -/
theorem zb_idx {A : Nat} (hA : 3 ≤ A ∧ A ≤ 6) {c j : Int} (hc : 0 ≤ c ∧ c < cw_N A) (h0 : c * (A : Int) ≤ j) (h1 : j < c * (A : Int) + (A : Int)) : 0 ≤ j ∧ j < ((3 ^ (A - 1) * A : Nat) : Int) := by
  unfold cw_N at hc
  rcases (by omega : A = 3 ∨ A = 4 ∨ A = 5 ∨ A = 6) with rfl | rfl | rfl | rfl <;> (simp at hc h0 h1 ⊢; omega)
theorem zb_ahead {A R : Nat} (hA : 3 ≤ A ∧ A ≤ 6) {j : Int} (h0 : 0 ≤ j) (h1 : j < (R : Int) * cw_N A) : 0 ≤ j ∧ j < (((3 * A + 1) * R * 3 ^ (A - 1) : Nat) : Int) := by
  unfold cw_N at h1
  rcases (by omega : A = 3 ∨ A = 4 ∨ A = 5 ∨ A = 6) with rfl | rfl | rfl | rfl <;> (simp at h1 ⊢; omega)
theorem zd_un {N c : Int} (hN : 1 ≤ N) (hc : 0 ≤ c ∧ c < N) : ∀ i, (1 ≤ (cw_ds N c i).1 ∧ (cw_ds N c i).1 ≤ N) ∧ (0 ≤ (cw_ds N c i).2.1 ∧ (cw_ds N c i).2.1 < N)
  | 0 => ⟨⟨hN, Int.le_refl _⟩, hc.1, hc.2⟩
  | i + 1 => by
    obtain ⟨⟨h1, h2⟩, h3, h4⟩ := zd_un hN hc i
    generalize hx : cw_ds N c i = x at h1 h2 h3 h4
    show (1 ≤ (cw_d1 (cw_ds N c i)).1 ∧ (cw_d1 (cw_ds N c i)).1 ≤ N) ∧ (0 ≤ (cw_d1 (cw_ds N c i)).2.1 ∧ (cw_d1 (cw_ds N c i)).2.1 < N)
    rw [hx]
    have a : x.1.tdiv 3 = x.1 / 3 := Int.tdiv_eq_ediv_of_nonneg (by omega)
    have p : 1 ≤ max 1 (x.1.tdiv 3) ∧ max 1 (x.1.tdiv 3) ≤ N := by rw [a]; omega
    have b := Int.tmod_nonneg (max 1 (x.1.tdiv 3)) h3
    have e := Int.tmod_lt_of_pos x.2.1 (show 0 < max 1 (x.1.tdiv 3) by omega)
    exact ⟨p, b, Int.lt_of_lt_of_le e p.2⟩
abbrev zd_At (X : ch_X) (ad : Nat → Nat) (A R d : Nat) (K : Option ck_V → ck_W → Prop) (c a3 a4 a5 : Int) (u : ck_W) : Prop := ck_At (cn_X X ad (cz10 A R)) (d + 1) mX10_describe K 21 [some (.inr (.inr 0)), some (.inl c), some (.inl (c * (A : Int))), some (.inl a3), some (.inl a4), some (.inl a5)] [] u
theorem zd_21 {X : ch_X} {ad : Nat → Nat} {A R : Nat} (hC : cz10_C X ad A R) {d : Nat} {K : Option ck_V → ck_W → Prop} {w : ck_W} {c : Int} (hc : 0 ≤ c ∧ c < cw_N A) (hA : w 1 0 = (A : Int))
    (H : ∀ u, (∀ k, k ≠ 7 → u k = w k) → (∀ j, ¬ (c * (A : Int) + 1 ≤ j ∧ j < c * (A : Int) + (A : Int)) → u 7 j = w 7 j) → (∀ i : Nat, i < A → u 7 (c * (A : Int) + i) = cw_sh A c i) → ∀ a3 a4, zd_At X ad A R d K c a3 a4 (A : Int) u) :
    ∀ (m t : Nat) (u : ck_W), A - (t + 1) ≤ m → t + 1 ≤ A → (∀ k, k ≠ 7 → u k = w k) → (∀ j, ¬ (c * (A : Int) + 1 ≤ j ∧ j < c * (A : Int) + (A : Int)) → u 7 j = w 7 j) → (∀ i : Nat, i ≤ t → u 7 (c * (A : Int) + i) = cw_sh A c i) → zd_At X ad A R d K c (cw_ds (cw_N A) c t).2.1 (cw_ds (cw_N A) c t).1 ((t + 1 : Nat) : Int) u
  | 0, t, u, h1, h2, f1, f2, f3 => by
    rw [show t + 1 = A by omega]
    exact H u f1 f2 (fun i hi => f3 i (by omega)) _ _
  | m + 1, t, u, h1, h2, f1, f2, f3 => by
    have hA3 : 3 ≤ A ∧ A ≤ 6 := ⟨hC.2.1, hC.2.2.1⟩
    have hN := cw_Nb hA3
    by_cases q : t + 1 = A
    · rw [q]
      exact H u f1 f2 (fun i hi => f3 i (by omega)) _ _
    · have u10 : u 1 0 = (A : Int) := by rw [f1 1 (by decide)]; exact hA
      obtain ⟨⟨d1, d2⟩, d3, d4⟩ := zd_un (N := cw_N A) (c := c) (by omega) hc t
      obtain ⟨⟨d5, d6⟩, d7, d8⟩ := zd_un (N := cw_N A) (c := c) (by omega) hc (t + 1)
      have hsh := (cw_cks hA3 hc).1 (t + 1) (by omega)
      have e7 : c * (A : Int) + ((t + 1 : Nat) : Int) - 1 = c * (A : Int) + (t : Int) := by omega
      have ev : u 7 (c * (A : Int) + ((t + 1 : Nat) : Int) - 1) + (cw_ds (cw_N A) c t).2.1.tdiv (max 1 ((cw_ds (cw_N A) c t).1.tdiv 3)) - 1 = cw_sh A c (t + 1) := by
        rw [e7, f3 t (Nat.le_refl _)]
        rfl
      have a : (cw_ds (cw_N A) c t).1.tdiv 3 = (cw_ds (cw_N A) c t).1 / 3 := Int.tdiv_eq_ediv_of_nonneg (by omega)
      refine zr_X10_describe_21 hC ⟨fun z => absurd z (by rw [u10]; omega), fun _ => ⟨⟨by rw [a]; omega, by rw [a]; omega⟩, gx_max hC.1 ⟨_, rfl, fun _ => ⟨zb_idx hA3 hc (by omega) (by omega), by omega, ?_, zb_idx hA3 hc (by omega) (by omega), ?_, ⟨by omega, by omega⟩, ?_⟩⟩⟩⟩
      · rw [ev]; exact ⟨by omega, by omega⟩
      · exact ⟨Int.le_trans (by omega) d7, Int.le_trans (Int.le_of_lt d8) (by omega)⟩
      · rw [ev, show ((t + 1 : Nat) : Int) + 1 = ((t + 1 + 1 : Nat) : Int) by omega]
        refine zd_21 hC hc hA H m (t + 1) (ck_up u 7 (c * (A : Int) + ((t + 1 : Nat) : Int)) (cw_sh A c (t + 1))) (by omega) (by omega) (fun k hk => by rw [ck_up_ne hk]; exact f1 k hk) (fun j hj => ?_) (fun i hi => ?_)
        · rw [ck_up_nj (fun z => hj (by rw [z]; omega))]
          exact f2 j hj
        · by_cases z : i = t + 1
          · rw [z, ck_up_eq]
          · rw [ck_up_nj (by omega)]
            exact f3 i (by omega)
def zP (A : Nat) (c : Int) (w w' : ck_W) : Prop := (∀ k, k ≠ 0 → k ≠ 7 → k ≠ 8 → k ≠ 9 → k ≠ 10 → k ≠ 11 → w' k = w k) ∧ (∀ j, j ≠ 7 → w' 0 j = w 0 j) ∧ ((∀ j, ¬ (c * (A : Int) + 1 ≤ j ∧ j < c * (A : Int) + (A : Int)) → w' 7 j = w 7 j) ∧ ∀ i : Nat, i < A → w' 7 (c * (A : Int) + i) = cw_sh A c i) ∧ (w' 8 c = cw_sh A c 1 ∧ ∀ j, j ≠ c → w' 8 j = w 8 j) ∧ (w' 9 c = cw_ta A c ∧ ∀ j, j ≠ c → w' 9 j = w 9 j) ∧ (w' 10 c = cw_sh A c (A - 1) ∧ ∀ j, j ≠ c → w' 10 j = w 10 j) ∧ ((cw_sh A c (A - 1) < 0 ∧ w' 0 7 = w 0 7 ∧ w' 11 = w 11) ∨ (0 ≤ cw_sh A c (A - 1) ∧ w' 0 7 = w 0 7 + 1 ∧ w' 11 (w 0 7) = c ∧ ∀ j, j ≠ w 0 7 → w' 11 j = w 11 j))
theorem zS_describe {X : ch_X} {ad : Nat → Nat} {A R : Nat} (hC : cz10_C X ad A R) {d : Nat} {K : Option ck_V → ck_W → Prop} {w : ck_W} {c : Int} (hc : 0 ≤ c ∧ c < cw_N A) (hA : w 1 0 = (A : Int)) (hN : w 0 1 = cw_N A) (h0 : w 7 (c * (A : Int)) = 0) (hl : 0 ≤ w 0 7 ∧ w 0 7 ≤ c) (H : ∀ w', zP A c w w' → K none w') : ck_Ex (cn_X X ad (cz10 A R)) (d + 1) mX10_describe [.inr (.inr 0), .inl c] w K := by
  have hA3 : 3 ≤ A ∧ A ≤ 6 := ⟨hC.2.1, hC.2.2.1⟩
  have hNb := cw_Nb hA3
  have hz := zb_idx hA3 hc (Int.le_refl _) (by omega)
  have hz2 : ((3 ^ (A - 1) * A : Nat) : Int) < 2147483648 := Int.ofNat_lt.mpr (san_7 hC)
  obtain ⟨k1, k2, k3⟩ := cw_cks hA3 hc
  refine ze_X10_describe hC ?_
  rw [hA, hN]
  refine ⟨⟨by omega, by omega⟩, ?_⟩
  refine zd_21 hC hc hA (fun u u1 u2 u3 a3 a4 => ?_) A 0 w (by omega) (by omega) (fun _ _ => rfl) (fun _ _ => rfl) (fun i hi => by rw [show i = 0 by omega]; show w 7 (c * (A : Int) + 0) = 0; rw [Int.add_zero]; exact h0)
  have u10 : u 1 0 = (A : Int) := by rw [u1 1 (by decide)]; exact hA
  have u01 : u 0 1 = cw_N A := by rw [u1 0 (by decide)]; exact hN
  have u07 : u 0 7 = w 0 7 := by rw [u1 0 (by decide)]
  have e1 : u 7 (c * (A : Int) + 1) = cw_sh A c 1 := u3 1 (by omega)
  have eA : u 7 (c * (A : Int) + (A : Int) - 1) = cw_sh A c (A - 1) := by
    have := u3 (A - 1) (by omega)
    rw [show c * (A : Int) + ((A - 1 : Nat) : Int) = c * (A : Int) + (A : Int) - 1 by omega] at this
    exact this
  have eT : (c * 3).tmod (cw_N A) = cw_ta A c := rfl
  refine zr_X10_describe_21 hC ⟨fun _ => ?_, fun z => absurd (by rw [u10]; exact Int.le_refl _) z⟩
  rw [u10, u01, e1, eA, eT]
  refine ⟨zb_idx hA3 hc (by omega) (by omega), hc, ⟨by omega, by omega⟩, by omega, ⟨by omega, by omega⟩, zb_idx hA3 hc (by omega) (by omega), fun x hx => ?_⟩
  rw [ck_up_eq] at hx
  subst hx
  refine ⟨fun q => H _ ⟨?_, ?_, ⟨?_, ?_⟩, ⟨?_, ?_⟩, ⟨?_, ?_⟩, ⟨?_, ?_⟩, Or.inl ⟨q, ?_, ?_⟩⟩, fun q => ⟨⟨by omega, by rw [u07]; exact Int.lt_of_le_of_lt hl.2 hc.2⟩, ⟨by omega, by omega⟩, H _ ⟨?_, ?_, ⟨?_, ?_⟩, ⟨?_, ?_⟩, ⟨?_, ?_⟩, ⟨?_, ?_⟩, Or.inr ⟨by omega, ?_, ?_, ?_⟩⟩⟩⟩
  · intro k b0 b7 b8 b9 b10 b11
    rw [ck_up_ne b10, ck_up_ne b9, ck_up_ne b8, u1 k b7]
  · intro j hj
    rw [ck_up_ne (by decide), ck_up_ne (by decide), ck_up_ne (by decide), u1 0 (by decide)]
  · intro j hj
    rw [ck_up_ne (by decide), ck_up_ne (by decide), ck_up_ne (by decide), u2 j hj]
  · intro i hi
    rw [ck_up_ne (by decide), ck_up_ne (by decide), ck_up_ne (by decide), u3 i hi]
  · rw [ck_up_ne (by decide), ck_up_ne (by decide), ck_up_eq]
  · intro j hj
    rw [ck_up_ne (by decide), ck_up_ne (by decide), ck_up_nj hj, u1 8 (by decide)]
  · rw [ck_up_ne (by decide), ck_up_eq]
  · intro j hj
    rw [ck_up_ne (by decide), ck_up_nj hj, ck_up_ne (by decide), u1 9 (by decide)]
  · rw [ck_up_eq]
  · intro j hj
    rw [ck_up_nj hj, ck_up_ne (by decide), ck_up_ne (by decide), u1 10 (by decide)]
  · rw [ck_up_ne (by decide), ck_up_ne (by decide), ck_up_ne (by decide), u07]
  · rw [ck_up_ne (by decide), ck_up_ne (by decide), ck_up_ne (by decide), u1 11 (by decide)]
  · intro k b0 b7 b8 b9 b10 b11
    rw [ck_up_ne b0, ck_up_ne b11, ck_up_ne b10, ck_up_ne b9, ck_up_ne b8, u1 k b7]
  · intro j hj
    rw [ck_up_nj hj, ck_up_ne (by decide), ck_up_ne (by decide), ck_up_ne (by decide), ck_up_ne (by decide), u1 0 (by decide)]
  · intro j hj
    rw [ck_up_ne (by decide), ck_up_ne (by decide), ck_up_ne (by decide), ck_up_ne (by decide), ck_up_ne (by decide), u2 j hj]
  · intro i hi
    rw [ck_up_ne (by decide), ck_up_ne (by decide), ck_up_ne (by decide), ck_up_ne (by decide), ck_up_ne (by decide), u3 i hi]
  · rw [ck_up_ne (by decide), ck_up_ne (by decide), ck_up_ne (by decide), ck_up_ne (by decide), ck_up_eq]
  · intro j hj
    rw [ck_up_ne (by decide), ck_up_ne (by decide), ck_up_ne (by decide), ck_up_ne (by decide), ck_up_nj hj, u1 8 (by decide)]
  · rw [ck_up_ne (by decide), ck_up_ne (by decide), ck_up_ne (by decide), ck_up_eq]
  · intro j hj
    rw [ck_up_ne (by decide), ck_up_ne (by decide), ck_up_ne (by decide), ck_up_nj hj, ck_up_ne (by decide), u1 9 (by decide)]
  · rw [ck_up_ne (by decide), ck_up_ne (by decide), ck_up_eq]
  · intro j hj
    rw [ck_up_ne (by decide), ck_up_ne (by decide), ck_up_nj hj, ck_up_ne (by decide), ck_up_ne (by decide), u1 10 (by decide)]
  · rw [ck_up_eq, u07]
  · rw [ck_up_ne (by decide), u07, ck_up_eq]
  · intro j hj
    rw [ck_up_ne (by decide), u07, ck_up_nj hj, ck_up_ne (by decide), ck_up_ne (by decide), ck_up_ne (by decide), u1 11 (by decide)]
def zI (A : Nat) (c : Int) (w : ck_W) : Prop := w 0 1 = cw_N A ∧ w 1 0 = (A : Int) ∧ (∀ c', 0 ≤ c' → c' < c → (∀ i : Nat, i < A → w 7 (c' * (A : Int) + i) = cw_sh A c' i) ∧ w 10 c' = cw_sh A c' (A - 1) ∧ w 8 c' = cw_sh A c' 1 ∧ w 9 c' = cw_ta A c') ∧ (∀ c', c ≤ c' → w 7 (c' * (A : Int)) = 0) ∧ (0 ≤ w 0 7 ∧ w 0 7 ≤ c) ∧ (∀ k, 0 ≤ k → k < w 0 7 → 0 ≤ w 11 k ∧ w 11 k < c) ∧ (∀ c', 0 ≤ c' → c' < c → 0 ≤ cw_sh A c' (A - 1) → ∃ k, (0 ≤ k ∧ k < w 0 7) ∧ w 11 k = c')
theorem zI_step {A : Nat} {c : Int} {w w' : ck_W} (hA : 3 ≤ A) (hc : 0 ≤ c) (h : zI A c w) (p : zP A c w w') : zI A (c + 1) w' := by
  obtain ⟨h1, h2, h3, h4, h5, h6, h7⟩ := h
  obtain ⟨p1, p2, ⟨p3, p4⟩, ⟨p5, p6⟩, ⟨p7, p8⟩, ⟨p9, p10⟩, p11⟩ := p
  refine ⟨by rw [p2 1 (by decide)]; exact h1, by rw [p1 1 (by decide) (by decide) (by decide) (by decide) (by decide) (by decide)]; exact h2, fun c' c0 c1 => ?_, fun c' c0 => ?_, ?_, ?_, ?_⟩
  · by_cases q : c' = c
    · subst q
      exact ⟨p4, p9, p5, p7⟩
    · obtain ⟨g1, g2, g3, g4⟩ := h3 c' c0 (by omega)
      refine ⟨fun i hi => ?_, by rw [p10 c' q]; exact g2, by rw [p6 c' q]; exact g3, by rw [p8 c' q]; exact g4⟩
      have := Int.mul_le_mul_of_nonneg_right (show c' + 1 ≤ c by omega) (show (0 : Int) ≤ (A : Int) by omega)
      rw [Int.add_mul, Int.one_mul] at this
      rw [p3 _ (by omega)]
      exact g1 i hi
  · have := Int.mul_le_mul_of_nonneg_right (show c + 1 ≤ c' by omega) (show (0 : Int) ≤ (A : Int) by omega)
    rw [Int.add_mul, Int.one_mul] at this
    rw [p3 _ (by omega)]
    exact h4 c' (by omega)
  · rcases p11 with ⟨a, b, e⟩ | ⟨a, b, e, f⟩ <;> omega
  · intro k k0 k1
    rcases p11 with ⟨a, b, e⟩ | ⟨a, b, e, f⟩
    · rw [e]
      have := h6 k k0 (by omega)
      omega
    · by_cases q : k = w 0 7
      · rw [q, e]; omega
      · rw [f k q]
        have := h6 k k0 (by omega)
        omega
  · intro c' c0 c1 s0
    rcases p11 with ⟨a, b, e⟩ | ⟨a, b, e, f⟩
    · have q : c' ≠ c := fun z => by subst z; omega
      obtain ⟨k, k1, k2⟩ := h7 c' c0 (by omega) s0
      exact ⟨k, by rw [b]; exact k1, by rw [e]; exact k2⟩
    · by_cases q : c' = c
      · exact ⟨w 0 7, by omega, by rw [e, q]⟩
      · obtain ⟨k, k1, k2⟩ := h7 c' c0 (by omega) s0
        exact ⟨k, by omega, by rw [f k (by omega)]; exact k2⟩
def zF (w w' : ck_W) : Prop := (∀ k, k ≠ 0 → k ≠ 7 → k ≠ 8 → k ≠ 9 → k ≠ 10 → k ≠ 11 → w' k = w k) ∧ ∀ j, j ≠ 7 → w' 0 j = w 0 j
theorem z_192 {X : ch_X} {ad : Nat → Nat} {A R : Nat} (hC : cz10_C X ad A R) {d C S : Nat} {ws0 : va_W} {K : va_W → Prop} {cells slots : Nat} (hcs : cells ≤ C ∧ slots ≤ S) {w : ck_W} (H : ∀ w', zI A (cw_N A) w' → zF w w' → ck_ok (cz10 A R) w' → K (ch_ws (cn_X X ad (cz10 A R)) (ck_w w'))) : ∀ (m : Nat) (c : Int) (u : ck_W), cw_N A - c ≤ m → 0 ≤ c → c ≤ cw_N A → zI A c u → zF w u → cq_At (cn_X X ad (cz10 A R)) (cu_M X (d + 3) C S ws0 K (cn_X X ad (cz10 A R)) cells slots) mX10_init 192 [some (.inr (.inr 0)), none, some (.inl c)] [] u
  | 0, c, u, h1, h2, h3, hI, hF => by
    refine t_X10_init_192 hC hcs ⟨fun q => H u (by rw [show cw_N A = c by omega]; exact hI) hF, fun q => absurd (by rw [hI.1]; omega) q⟩
  | m + 1, c, u, h1, h2, h3, hI, hF => by
    have hA3 : 3 ≤ A ∧ A ≤ 6 := ⟨hC.2.1, hC.2.2.1⟩
    have hNb := cw_Nb hA3
    refine t_X10_init_192 hC hcs ⟨fun q => H u (by rw [hI.1] at q; rw [show cw_N A = c by omega]; exact hI) hF, fun q => ?_⟩
    rw [hI.1] at q
    refine zS_describe hC (d := d + 1) ⟨h2, by omega⟩ hI.2.1 hI.1 (hI.2.2.2.1 c (Int.le_refl _)) hI.2.2.2.2.1 (fun w' p => ⟨rfl, ⟨by omega, by omega⟩, ?_⟩)
    exact z_192 hC hcs H m (c + 1) w' (by omega) (by omega) (by omega) (zI_step hA3.1 h2 hI p) ⟨fun k a b e f g i => by rw [p.1 k a b e f g i]; exact hF.1 k a b e f g i, fun j hj => by rw [p.2.1 j hj]; exact hF.2 j hj⟩
theorem z_164 {X : ch_X} {ad : Nat → Nat} {A R : Nat} (hC : cz10_C X ad A R) {d C S : Nat} {ws0 : va_W} {K : va_W → Prop} {cells slots : Nat} (hcs : cells ≤ C ∧ slots ≤ S) {w : ck_W} (h01 : w 0 1 = cw_N A) (h11 : w 1 1 = (R : Int))
    (H : ∀ w', (∀ k, k ≠ 13 → w' k = w k) → (∀ j, 0 ≤ j → j < (R : Int) * cw_N A → w' 13 j = 1) → (∀ j, (R : Int) * cw_N A ≤ j → w' 13 j = w 13 j) → cq_At (cn_X X ad (cz10 A R)) (cu_M X (d + 3) C S ws0 K (cn_X X ad (cz10 A R)) cells slots) mX10_init 192 [some (.inr (.inr 0)), none, some (.inl 0)] [] w') :
    ∀ (m : Nat) (i : Int) (u : ck_W), (R : Int) * cw_N A - i ≤ m → 0 ≤ i → i ≤ (R : Int) * cw_N A → (∀ k, k ≠ 13 → u k = w k) → (∀ j, 0 ≤ j → j < i → u 13 j = 1) → (∀ j, i ≤ j → u 13 j = w 13 j) → cq_At (cn_X X ad (cz10 A R)) (cu_M X (d + 3) C S ws0 K (cn_X X ad (cz10 A R)) cells slots) mX10_init 164 [some (.inr (.inr 0)), some (.inr (.inr 1)), some (.inl i)] [] u
  | m, i, u, h1, h2, h3, f1, f2, f3 => by
    have hA3 : 3 ≤ A ∧ A ≤ 6 := ⟨hC.2.1, hC.2.2.1⟩
    have hNb := cw_Nb hA3
    have hb : (R : Int) * cw_N A ≤ 12 * 243 := Int.mul_le_mul (by have := hC.2.2.2.2; omega) hNb.2 (by omega) (by omega)
    have hb0 : 0 ≤ (R : Int) * cw_N A := Int.mul_nonneg (by omega) (by omega)
    have u01 : u 0 1 = cw_N A := by rw [f1 0 (by decide)]; exact h01
    have u11 : u 1 1 = (R : Int) := by rw [f1 1 (by decide)]; exact h11
    refine t_X10_init_164 hC hcs ?_
    rw [u01, u11]
    refine ⟨⟨by omega, by omega⟩, fun q => H u f1 (fun j a b => f2 j a (by omega)) (fun j a => f3 j (by omega)), fun q => ⟨zb_ahead hA3 h2 (by omega), ⟨by omega, by omega⟩, ?_⟩⟩
    match m, h1 with
    | 0, h1 => exact absurd (show (R : Int) * cw_N A ≤ i by omega) q
    | m + 1, h1 =>
      refine z_164 hC hcs h01 h11 H m (i + 1) (ck_up u 13 i 1) (by omega) (by omega) (by omega) (fun k hk => by rw [ck_up_ne hk]; exact f1 k hk) (fun j a b => ?_) (fun j a => by rw [ck_up_nj (by omega)]; exact f3 j (by omega))
      by_cases z : j = i
      · rw [z, ck_up_eq]
      · rw [ck_up_nj z]; exact f2 j a (by omega)
theorem z_X10_tail {X : ch_X} {ad : Nat → Nat} {A R : Nat} (hC : cz10_C X ad A R) {d C S : Nat} {ws0 : va_W} {K : va_W → Prop} {cells slots : Nat} (hcs : cells ≤ C ∧ slots ≤ S) {w : ck_W} (h01 : w 0 1 = cw_N A) (h10 : w 1 0 = (A : Int)) (h11 : w 1 1 = (R : Int)) (h7 : ∀ j, w 7 j = 0) (h07 : w 0 7 = 0)
    (H : ∀ w', zI A (cw_N A) w' → (∀ k, k ≠ 0 → k ≠ 7 → k ≠ 8 → k ≠ 9 → k ≠ 10 → k ≠ 11 → k ≠ 13 → w' k = w k) → (∀ j, j ≠ 7 → w' 0 j = w 0 j) → (∀ j, 0 ≤ j → j < (R : Int) * cw_N A → w' 13 j = 1) → (∀ j, (R : Int) * cw_N A ≤ j → w' 13 j = w 13 j) → ck_ok (cz10 A R) w' → K (ch_ws (cn_X X ad (cz10 A R)) (ck_w w'))) :
    cq_At (cn_X X ad (cz10 A R)) (cu_M X (d + 3) C S ws0 K (cn_X X ad (cz10 A R)) cells slots) mX10_init 162 [some (.inr (.inr 0)), some (.inr (.inr 1)), none] [] w := by
  have hA3 : 3 ≤ A ∧ A ≤ 6 := ⟨hC.2.1, hC.2.2.1⟩
  have hNb := cw_Nb hA3
  have hb0 : 0 ≤ (R : Int) * cw_N A := Int.mul_nonneg (by omega) (by omega)
  refine t_X10_init_162 hC hcs (z_164 hC hcs h01 h11 (fun u g1 g2 g3 => ?_) ((R : Int) * cw_N A).toNat 0 w (by omega) (Int.le_refl _) hb0 (fun _ _ => rfl) (fun j a b => by omega) (fun _ _ => rfl))
  refine z_192 hC hcs (w := u) (fun w' i1 i2 i3 => H w' i1 (fun k a b c e f g i => by rw [i2.1 k a b c e f g]; exact g1 k i) (fun j hj => by rw [i2.2 j hj, g1 0 (by decide)]) (fun j a b => by rw [i2.1 13 (by decide) (by decide) (by decide) (by decide) (by decide) (by decide)]; exact g2 j a b) (fun j a => by rw [i2.1 13 (by decide) (by decide) (by decide) (by decide) (by decide) (by decide)]; exact g3 j a) i3) (cw_N A).toNat 0 u (by omega) (Int.le_refl _) (by omega) ?_ ⟨fun _ _ _ _ _ _ _ => rfl, fun _ _ => rfl⟩
  refine ⟨by rw [g1 0 (by decide)]; exact h01, by rw [g1 1 (by decide)]; exact h10, fun c' a b => by omega, fun c' _ => by rw [g1 7 (by decide)]; exact h7 _, by rw [g1 0 (by decide), h07]; exact ⟨Int.le_refl _, Int.le_refl _⟩, fun k a b => ?_, fun c' a b => by omega⟩
  rw [g1 0 (by decide), h07] at b
  omega
def z12 (j : Int) : Int := if j = 7 then 5 else if j = 8 then 3 else if j = 9 then 1 else if 10 ≤ j ∧ j < 16 then 2 else 0
theorem z_copy {X : ch_X} {ad : Nat → Nat} {A R : Nat} (hC : cz12_C X ad A R) {d : Nat} {K : Option ck_V → ck_W → Prop} {w : ck_W} (H : ∀ w', (∀ k, k ≠ 2 → w' k = w k) → (∀ j, 0 ≤ j → j < 1430 → w' 2 j = w 1 j) → K none w') : ∀ (m : Nat) (i : Int) (u : ck_W), 1430 - i ≤ m → 0 ≤ i → i ≤ 1430 → (∀ k, k ≠ 2 → u k = w k) → (∀ j, 0 ≤ j → j < i → u 2 j = w 1 j) → ck_At (cn_X X ad (cz12 A R)) d mX12_copy K 2 [some (.inr (.inr 1)), some (.inr (.inr 2)), some (.inl i)] [] u
  | m, i, u, h1, h2, h3, f1, f2 => by
    refine zr_X12_copy_2 hC ⟨fun q => H u f1 (fun j a b => f2 j a (by omega)), fun q => ⟨⟨h2, by omega⟩, ⟨by omega, by omega⟩, ?_⟩⟩
    match m, h1 with
    | 0, h1 => exact absurd (show (1430 : Int) ≤ i by omega) q
    | m + 1, h1 =>
      refine z_copy hC H m (i + 1) (ck_up u 2 i (u 1 i)) (by omega) (by omega) (by omega) (fun k hk => by rw [ck_up_ne hk]; exact f1 k hk) (fun j a b => ?_)
      by_cases z : j = i
      · rw [z, ck_up_eq, f1 1 (by decide)]
      · rw [ck_up_nj z]; exact f2 j a (by omega)
theorem z_289 {X : ch_X} {ad : Nat → Nat} {A R : Nat} (hC : cz12_C X ad A R) {d C S : Nat} {ws0 : va_W} {K : va_W → Prop} {cells slots : Nat} (hcs : cells ≤ C ∧ slots ≤ S) {w : ck_W} (H : ∀ w', (∀ k, k ≠ 1 → k ≠ 2 → w' k = w k) → (∀ j, w' 1 j = if 10 ≤ j ∧ j < 16 then 2 else w 1 j) → (∀ j, 0 ≤ j → j < 1430 → w' 2 j = w' 1 j) → ck_ok (cz12 A R) w' → K (ch_ws (cn_X X ad (cz12 A R)) (ck_w w'))) : ∀ (m : Nat) (i : Int) (u : ck_W), 6 - i ≤ m → 0 ≤ i → i ≤ 6 → (∀ k, k ≠ 1 → u k = w k) → (∀ j, u 1 j = if 10 ≤ j ∧ j < 10 + i then 2 else w 1 j) → cq_At (cn_X X ad (cz12 A R)) (cu_M X (d + 3) C S ws0 K (cn_X X ad (cz12 A R)) cells slots) mX12_init 289 [some (.inr (.inr 0)), none, none, none, some (.inl i)] [] u
  | m, i, u, h1, h2, h3, f1, f2 => by
    refine t_X12_init_289 hC hcs ⟨fun q => ?_, fun q => ⟨⟨by omega, by omega⟩, ⟨by omega, by omega⟩, ?_⟩⟩
    · have e : i = 6 := by omega
      subst e
      refine ze_X12_copy hC (z_copy hC (w := u) (fun w' g1 g2 => ⟨rfl, H w' (fun k a b => by rw [g1 k b]; exact f1 k a) (fun j => by rw [g1 1 (by decide)]; exact f2 j) (fun j a b => by rw [g1 1 (by decide)]; exact g2 j a b)⟩) 1430 0 u (by omega) (by omega) (by omega) (fun _ _ => rfl) (fun j a b => by omega))
    · match m, h1 with
      | 0, h1 => exact absurd (show (6 : Int) ≤ i by omega) q
      | m + 1, h1 =>
        refine z_289 hC hcs H m (i + 1) (ck_up u 1 (10 + i) 2) (by omega) (by omega) (by omega) (fun k hk => by rw [ck_up_ne hk]; exact f1 k hk) (fun j => ?_)
        by_cases z : j = 10 + i
        · rw [z, ck_up_eq, if_pos (by omega)]
        · rw [ck_up_nj z, f2 j]
          by_cases y : 10 ≤ j ∧ j < 10 + i
          · rw [if_pos y, if_pos (by omega)]
          · rw [if_neg y, if_neg (by omega)]
theorem zl_p3 {t : Nat} (h : t ≤ 5) : ck_i (((3 ^ t : Nat) : Int) * 3) := by
  rcases (by omega : t = 0 ∨ t = 1 ∨ t = 2 ∨ t = 3 ∨ t = 4 ∨ t = 5) with rfl | rfl | rfl | rfl | rfl | rfl <;> decide
theorem z_238 {X : ch_X} {ad : Nat → Nat} {A R : Nat} (hC : cz12_C X ad A R) {d C S : Nat} {ws0 : va_W} {K : va_W → Prop} {cells slots : Nat} (hcs : cells ≤ C ∧ slots ≤ S) {w : ck_W} (h00 : w 0 0 = (A : Int)) (H : cq_At (cn_X X ad (cz12 A R)) (cu_M X (d + 3) C S ws0 K (cn_X X ad (cz12 A R)) cells slots) mX12_init 289 [some (.inr (.inr 0)), none, none, none, some (.inl 0)] [] (ck_up (ck_up (ck_up (ck_up w 0 2 (cw_N A)) 1 7 5) 1 8 3) 1 9 1)) : ∀ (m t : Nat), A - (t + 1) ≤ m → t + 1 ≤ A → cq_At (cn_X X ad (cz12 A R)) (cu_M X (d + 3) C S ws0 K (cn_X X ad (cz12 A R)) cells slots) mX12_init 238 [some (.inr (.inr 0)), none, none, some (.inl ((3 ^ t : Nat) : Int)), some (.inl ((t + 1 : Nat) : Int))] [] w
  | m, t, h1, h2 => by
    have hA3 : 3 ≤ A ∧ A ≤ 6 := ⟨hC.2.1, hC.2.2.1⟩
    refine t_X12_init_238 hC hcs ?_
    rw [h00]
    refine ⟨fun q => ?_, fun q => ⟨zl_p3 (by omega), ⟨by omega, by omega⟩, ?_⟩⟩
    · have e : t = A - 1 := by omega
      subst e
      exact H
    · match m, h1 with
      | 0, h1 => exact absurd (show (A : Int) ≤ ((t + 1 : Nat) : Int) by omega) q
      | m + 1, h1 =>
        have e1 : ((3 ^ t : Nat) : Int) * 3 = ((3 ^ (t + 1) : Nat) : Int) := by rw [Nat.pow_succ]; omega
        have e2 : ((t + 1 : Nat) : Int) + 1 = ((t + 1 + 1 : Nat) : Int) := by omega
        rw [e1, e2]
        exact z_238 hC hcs h00 H m (t + 1) (by omega) (by omega)
theorem z_X12_tail {X : ch_X} {ad : Nat → Nat} {A R : Nat} (hC : cz12_C X ad A R) {d C S : Nat} {ws0 : va_W} {K : va_W → Prop} {cells slots : Nat} (hcs : cells ≤ C ∧ slots ≤ S) {w : ck_W} {a1 a2 : Int} (hA : max 3 (min 6 a1) = (A : Int)) (hR : max 4 (min 12 a2) = (R : Int)) (h1 : ∀ j, w 1 j = 0)
    (H : ∀ w', (∀ k, k ≠ 0 → k ≠ 1 → k ≠ 2 → w' k = w k) → (∀ j, j ≠ 0 → j ≠ 1 → j ≠ 2 → w' 0 j = w 0 j) → w' 0 0 = (A : Int) → w' 0 1 = (R : Int) → w' 0 2 = cw_N A → (∀ j, w' 1 j = z12 j) → (∀ j, 0 ≤ j → j < 1430 → w' 2 j = z12 j) → ck_ok (cz12 A R) w' → K (ch_ws (cn_X X ad (cz12 A R)) (ck_w w'))) :
    cq_At (cn_X X ad (cz12 A R)) (cu_M X (d + 3) C S ws0 K (cn_X X ad (cz12 A R)) cells slots) mX12_init 183 [some (.inr (.inr 0)), some (.inl a1), some (.inl a2), none, none] [] w := by
  have hA3 : 3 ≤ A ∧ A ≤ 6 := ⟨hC.2.1, hC.2.2.1⟩
  have key2 : ∀ u : ck_W, (∀ k, k ≠ 0 → u k = w k) → (∀ j, j ≠ 0 → j ≠ 1 → u 0 j = w 0 j) → u 0 0 = (A : Int) → u 0 1 = (R : Int) → cq_At (cn_X X ad (cz12 A R)) (cu_M X (d + 3) C S ws0 K (cn_X X ad (cz12 A R)) cells slots) mX12_init 233 [some (.inr (.inr 0)), none, none, none, none] [] u := by
    intro u f1 f2 f3 f4
    refine t_X12_init_233 hC hcs (z_238 hC hcs f3 ?_ A 0 (by omega) (by omega))
    refine z_289 hC hcs (w := ck_up (ck_up (ck_up (ck_up u 0 2 (cw_N A)) 1 7 5) 1 8 3) 1 9 1) (fun w' g1 g2 g3 g4 => ?_) 6 0 _ (by omega) (by omega) (by omega) (fun _ _ => rfl) (fun j => by rw [if_neg (by omega)])
    have g0 : ∀ j, w' 0 j = ck_up u 0 2 (cw_N A) 0 j := fun j => by rw [g1 0 (by decide) (by decide), ck_up_ne (by decide), ck_up_ne (by decide), ck_up_ne (by decide)]
    have ga : ∀ j, w' 1 j = z12 j := by
      intro j
      have e0 : (ck_up u 0 2 (cw_N A)) 1 = w 1 := by rw [ck_up_ne (by decide), f1 1 (by decide)]
      rw [g2 j]
      simp only [ck_up_at, e0, h1, z12]
      by_cases c7 : j = 7
      · subst c7; simp
      · by_cases c8 : j = 8
        · subst c8; simp
        · by_cases c9 : j = 9
          · subst c9; simp
          · simp [c7, c8, c9]
    refine H w' (fun k a b c => ?_) (fun j a b c => ?_) ?_ ?_ ?_ ga (fun j a b => by rw [g3 j a b]; exact ga j) g4
    · rw [g1 k b c, ck_up_ne b, ck_up_ne b, ck_up_ne b, ck_up_ne a]; exact f1 k a
    · rw [g0, ck_up_nj c]; exact f2 j a b
    · rw [g0, ck_up_nj (by decide)]; exact f3
    · rw [g0, ck_up_nj (by decide)]; exact f4
    · rw [g0, ck_up_eq]
  have key1 : ∀ u : ck_W, (∀ k, k ≠ 0 → u k = w k) → (∀ j, j ≠ 0 → u 0 j = w 0 j) → u 0 0 = (A : Int) → cq_At (cn_X X ad (cz12 A R)) (cu_M X (d + 3) C S ws0 K (cn_X X ad (cz12 A R)) cells slots) mX12_init 208 [some (.inr (.inr 0)), none, some (.inl a2), none, none] [] u := by
    intro u f1 f2 f3
    have fin : ∀ v, v = (R : Int) → cq_At (cn_X X ad (cz12 A R)) (cu_M X (d + 3) C S ws0 K (cn_X X ad (cz12 A R)) cells slots) mX12_init 233 [some (.inr (.inr 0)), none, none, none, none] [] (ck_up u 0 1 v) := by
      intro v hv
      refine key2 _ (fun k hk => by rw [ck_up_ne hk]; exact f1 k hk) (fun j a b => by rw [ck_up_nj b]; exact f2 j a) (by rw [ck_up_nj (by decide)]; exact f3) (by rw [ck_up_eq]; exact hv)
    exact t_X12_init_208 hC hcs ⟨fun q => ⟨fun r => fin _ (by omega), fun r => fin _ (by omega)⟩, fun q => fin _ (by omega)⟩
  have fin : ∀ v, v = (A : Int) → cq_At (cn_X X ad (cz12 A R)) (cu_M X (d + 3) C S ws0 K (cn_X X ad (cz12 A R)) cells slots) mX12_init 208 [some (.inr (.inr 0)), none, some (.inl a2), none, none] [] (ck_up w 0 0 v) := by
    intro v hv
    exact key1 _ (fun k hk => by rw [ck_up_ne hk]) (fun j a => by rw [ck_up_nj a]) (by rw [ck_up_eq]; exact hv)
  exact t_X12_init_183 hC hcs ⟨fun q => ⟨fun r => fin _ (by omega), fun r => fin _ (by omega)⟩, fun q => fin _ (by omega)⟩
/-! ===== lengths; the worlds in which the tails begin ===== -/
theorem zl_cases {A : Nat} (hA : 3 ≤ A ∧ A ≤ 6) : A = 3 ∨ A = 4 ∨ A = 5 ∨ A = 6 := by omega
theorem zl_grey {A R : Nat} : 6 * (A : Int) * (R : Int) = ((6 * A * R : Nat) : Int) := by rw [Int.natCast_mul, Int.natCast_mul]; rfl
theorem zl_greyb {A R : Nat} (hA : 3 ≤ A ∧ A ≤ 6) (hR : 4 ≤ R ∧ R ≤ 12) : 6 * A * R ≤ 432 := by
  rcases zl_cases hA with rfl | rfl | rfl | rfl <;> omega
theorem zl_pw {A : Nat} (hA : 3 ≤ A ∧ A ≤ 6) : ck_pw 3 ((A : Int) - 1) = cw_N A := by
  rcases zl_cases hA with rfl | rfl | rfl | rfl <;> decide
theorem zl_codes {A : Nat} (hA : 3 ≤ A ∧ A ≤ 6) : max 1 (ck_pw 3 ((A : Int) - 1)) = cw_N A := by
  rw [zl_pw hA]
  have := cw_Nb hA
  omega
theorem zl_shape {A : Nat} : cw_N A * (A : Int) = ((3 ^ (A - 1) * A : Nat) : Int) := by rw [Int.natCast_mul]; rfl
theorem zl_gain {R : Nat} : 24 * (R : Int) = ((24 * R : Nat) : Int) := by omega
theorem zl_ahead {A R : Nat} : (3 * (A : Int) + 1) * (R : Int) * cw_N A = (((3 * A + 1) * R * 3 ^ (A - 1) : Nat) : Int) := by
  rw [Int.natCast_mul, Int.natCast_mul, Int.natCast_add, Int.natCast_mul]; rfl
theorem zl_b1 {A : Nat} (hA : 3 ≤ A ∧ A ≤ 6) : 3 ^ (A - 1) * A ≤ 1458 := by
  rcases zl_cases hA with rfl | rfl | rfl | rfl <;> decide
theorem zl_b2 {A : Nat} (hA : 3 ≤ A ∧ A ≤ 6) : 3 ^ (A - 1) ≤ 243 := by
  rcases zl_cases hA with rfl | rfl | rfl | rfl <;> decide
theorem zl_b3 {A R : Nat} (hA : 3 ≤ A ∧ A ≤ 6) (hR : 4 ≤ R ∧ R ≤ 12) : (3 * A + 1) * R * 3 ^ (A - 1) ≤ 55404 := by
  rcases zl_cases hA with rfl | rfl | rfl | rfl <;> (simp; omega)
def zw10 (A R : Nat) : ck_W := fun k => ([fun j => ([0, cw_N A] : List Int).getD j.toNat 0, fun j => ([(A : Int), (R : Int)] : List Int).getD j.toNat 0] : List (Int → Int)).getD k (fun _ => 0)
theorem z_getD {l : List Int} (h : ∀ x ∈ l, ck_i x) (n : Nat) : ck_i (l.getD n 0) := by
  rw [List.getD_eq_getElem?_getD]
  cases e : l[n]? with
  | none => exact ⟨by decide, by decide⟩
  | some x => exact h x (List.mem_of_getElem? e)
theorem z_getW {l : List (Int → Int)} (h : ∀ f ∈ l, ∀ j, ck_i (f j)) (n : Nat) (j : Int) : ck_i (l.getD n (fun _ => 0) j) := by
  rw [List.getD_eq_getElem?_getD]
  cases e : l[n]? with
  | none => exact (show ck_i 0 by decide)
  | some x => exact h x (List.mem_of_getElem? e) j
theorem z_okI {sh : List ch_D} {w : ck_W} (h : ∀ k j, ck_i (w k j)) : ck_ok sh w := fun k j => ⟨fun _ => ck_il (h k j), fun _ => h k j⟩
theorem zw10_ok {A R : Nat} (hA : 3 ≤ A ∧ A ≤ 6) (hR : 4 ≤ R ∧ R ≤ 12) : ck_ok (cz10 A R) (zw10 A R) := by
  have hN := cw_Nb hA
  refine z_okI (fun k j => z_getW (fun f hf j => ?_) k j)
  simp only [List.mem_cons, List.not_mem_nil, or_false] at hf
  rcases hf with rfl | rfl
  · refine z_getD (fun x hx => ?_) _
    simp only [List.mem_cons, List.not_mem_nil, or_false] at hx
    rcases hx with rfl | rfl <;> exact ⟨by omega, by omega⟩
  · refine z_getD (fun x hx => ?_) _
    simp only [List.mem_cons, List.not_mem_nil, or_false] at hx
    rcases hx with rfl | rfl <;> exact ⟨by omega, by omega⟩
def zR10 (A R : Nat) (w : ck_W) : Prop := zI A (cw_N A) w ∧ (∀ k, k ≠ 0 → k ≠ 7 → k ≠ 8 → k ≠ 9 → k ≠ 10 → k ≠ 11 → k ≠ 13 → w k = zw10 A R k) ∧ (∀ j, j ≠ 7 → w 0 j = zw10 A R 0 j) ∧ (∀ j, 0 ≤ j → j < (R : Int) * cw_N A → w 13 j = 1) ∧ (∀ j, (R : Int) * cw_N A ≤ j → w 13 j = zw10 A R 13 j) ∧ ck_ok (cz10 A R) w
def zw12 : ck_W := fun k => ([fun j => ([0, 0, 0, 0, 0, 0, 0, 0, 0, 0, 0, 0, 0, 0, 0, 0, 0, -1, -1] : List Int).getD j.toNat 0] : List (Int → Int)).getD k (fun _ => 0)
theorem zw12_ok (A R : Nat) : ck_ok (cz12 A R) zw12 := by
  refine z_okI (fun k j => z_getW (fun f hf j => ?_) k j)
  simp only [List.mem_cons, List.not_mem_nil, or_false] at hf
  subst hf
  exact z_getD (by decide) _
def zR12 (A R : Nat) (w' : ck_W) : Prop := (∀ k, k ≠ 0 → k ≠ 1 → k ≠ 2 → w' k = zw12 k) ∧ (∀ j, j ≠ 0 → j ≠ 1 → j ≠ 2 → w' 0 j = zw12 0 j) ∧ w' 0 0 = (A : Int) ∧ w' 0 1 = (R : Int) ∧ w' 0 2 = cw_N A ∧ (∀ j, w' 1 j = z12 j) ∧ (∀ j, 0 ≤ j → j < 1430 → w' 2 j = z12 j) ∧ ck_ok (cz12 A R) w'
theorem cn_power {X : ch_X} {d C S : Nat} {y : ch_M} {ws0 : va_W} {K : va_W → Prop} {pc : Nat} {L : List (Nat × Value)} {St : List Value} {cells slots : Nat} {ws : va_W} {index : Nat} {a b : Int} {host : String} (isR : List Nat) (hd : decode y.2.1 pc = .ok (.invokestatic index, 3)) (hc : ch_CSN y.1.cls index 2 mX11_power host) (ha : 0 ≤ a ∧ a ≤ 3) (hb : 0 ≤ b) (hb2 : b ≤ 27) (h8 : (St.map fun v => v.category).sum ≤ 8) (hR : isR.map (fun i => ws[i]?) = ws.map some) (hnd : va_nd isR = true) (hd1 : 1 ≤ d) (hce : cells ≤ C) (hsl : slots ≤ S) (k : cn_At X d C S y ws0 K (pc + 3) L (.long (Int64.ofInt (ck_pw a b)) :: St) cells slots ws) : cn_At X d C S y ws0 K pc L (.int (Int32.ofInt b) :: .int (Int32.ofInt a) :: St) cells slots ws := by
  refine cn_callSN (dz := 0) (wr := ws) (w := ck_w (fun _ _ => 0)) (fun _ => 0) [] [.int (Int32.ofInt a), .int (Int32.ofInt b)] [] isR hd hc rfl rfl h8 rfl rfl hR rfl hnd (fun _ _ h => by cases h) hd1 hce hsl (fun hO => gp_X11_power (K := fun r _ => r = some (.inr (.inl (ck_pw a b)))) hO ha.1 hb (Or.inl ⟨ha.2, hb2⟩) rfl cn_okn ⟨⟨by omega, by omega⟩, ⟨by omega, by omega⟩, trivial⟩) (fun r w1 h => ?_)
  obtain ⟨r', w', rfl, h2, h3, h4, rfl⟩ := h
  rw [show ch_ws (cn_X X (fun _ => 0) []) w1 = [] from rfl, List.append_nil]
  exact k
/-! ===== the world as a plain list ===== -/
def ch_fl (X : ch_X) (w : ch_W) (k : Nat) : Nat → List ch_F → List Value
  | _, [] => []
  | j, f :: l => ch_fv X w k j f :: ch_fl X w k (j + 1) l
theorem ch_fl_at {X : ch_X} {w : ch_W} {k : Nat} : ∀ (l : List ch_F) (j i : Nat), (ch_fl X w k j l)[i]? = l[i]?.map (fun f => ch_fv X w k (j + i) f)
  | [], j, i => by simp [ch_fl]
  | f :: l, j, 0 => by simp [ch_fl]
  | f :: l, j, i + 1 => by
    show (ch_fl X w k (j + 1) l)[i]? = _
    rw [ch_fl_at l (j + 1) i, show j + 1 + i = j + (i + 1) by omega]
    rfl
def ch_cl (X : ch_X) (w : ch_W) (k : Nat) (d : ch_D) : va_E := match d with
  | .inl (.long, n) => .inl (X.2.2.1 .long, n, .inr (.inl (w.2 k)))
  | .inl (ty, n) => .inl (X.2.2.1 ty, n, .inl (w.1 k))
  | .inr (ci, fs) => .inr (ci, ch_fl X w k 0 fs)
theorem ch_cl_eq {X : ch_X} {w : ch_W} {k : Nat} {d : ch_D} : ch_cell X w k d = ch_cl X w k d := by
  rcases d with ⟨ty, n⟩ | ⟨ci, fs⟩
  · cases ty <;> rfl
  · show Sum.inr (ci, fs.mapIdx (fun j f => ch_fv X w k j f)) = Sum.inr (ci, ch_fl X w k 0 fs)
    have e : fs.mapIdx (fun j f => ch_fv X w k j f) = ch_fl X w k 0 fs := by
      refine List.ext_getElem? (fun i => ?_)
      rw [ch_fl_at]
      simp [List.getElem?_mapIdx]
    rw [e]
def ch_wl (X : ch_X) (w : ch_W) : Nat → List ch_D → va_W
  | _, [] => []
  | k, d :: l => (X.2.2.2.1 k, ch_cl X w k d) :: ch_wl X w (k + 1) l
theorem ch_wl_at {X : ch_X} {w : ch_W} : ∀ (l : List ch_D) (k i : Nat), (ch_wl X w k l)[i]? = l[i]?.map (fun d => (X.2.2.2.1 (k + i), ch_cl X w (k + i) d))
  | [], k, i => by simp [ch_wl]
  | d :: l, k, 0 => by simp [ch_wl]
  | d :: l, k, i + 1 => by
    show (ch_wl X w (k + 1) l)[i]? = _
    rw [ch_wl_at l (k + 1) i, show k + 1 + i = k + (i + 1) by omega]
    rfl
theorem ch_ws_wl {X : ch_X} {w : ch_W} : ch_ws X w = ch_wl X w 0 X.2.2.2.2.2 := by
  refine List.ext_getElem? (fun i => ?_)
  rw [ch_wl_at]
  simp [ch_ws, List.getElem?_mapIdx, ch_cl_eq]
