/-! ===== the reference's clauses and texts: the machine of 76a ===== -/
/-- the code of n clauses with e steps: their steps, and behind each what it is -/
def cX (X n e : Int) (c t : Int → Int) : Prop := (n = 0 → e = 0) ∧ (0 < n → t (X + 3 * n) = e) ∧ ∀ k, 0 ≤ k → k < n → (t (X + 1 + 3 * k) = 1 ∨ t (X + 1 + 3 * k) = 2) ∧ t (X + 2 + 3 * k) = (if k = 0 then 0 else t (X + 3 * k)) ∧ (∀ i, t (X + 2 + 3 * k) ≤ i → i < t (X + 3 + 3 * k) → c (k + i) = scv (t (X + 50 + 2 * i)) (t (X + 50 + 2 * i + 1))) ∧ c (k + t (X + 3 + 3 * k)) = 20003 + t (X + 1 + 3 * k) ∧ tx_s2 t (X + 50) (t (X + 2 + 3 * k)) (t (X + 3 + 3 * k) - t (X + 2 + 3 * k)).toNat = some (0, 1)
def pX (X : Int) (s u : ck_W) : Prop := s 0 12 = u 79 X ∧ s 0 13 = u 76 30 ∧ s 0 14 = 0 ∧ s 0 16 = 0 ∧ s 0 4 = u 79 X + u 76 26 ∧ u 79 X + u 76 26 ≤ u 76 20 ∧ cX X (u 79 X) (u 76 26) (s 2) (u 79)
/-- between clauses -/
def sX (b : Int → Int) (s0 : ck_W) (X : Int) (u : ck_W) : Prop := ∃ s p, p_R b s0 p s ∧ tkn b p u ∧ s 0 9 = 0 ∧ pX X s u
theorem tp_pt {X : Int} {b : Int → Int} {u u' : ck_W} (h : tp b u) (p : pt X u u') : tp b u' := tp_c h (p.2.1 16 (by omega)) (p.1 89 (by decide) (by decide) (by decide))
theorem S2_X12_clause {g : ch_G} {A R : Nat} (hC : ck_Cx g A R) {d : Nat} {K : Option ck_V → ck_W → Prop} {w : ck_W} {T X : Int} {b : Int → Int} {s0 : ck_W} (hT : 0 ≤ T ∧ T ≤ 300) (hX : 0 ≤ X ∧ X ≤ 2400) (hB : tp b w) (hx : px T X w) (h0 : ¬ w 76 21 = 0) (hS : sX b s0 X w) (h : ∀ v w', pt X w w' → (¬ v = 0 → ∃ z, p_O b 0 s0 v (w' 76 20) z) → (v = 0 → px T X w' ∧ w 76 20 < w' 76 20 ∧ sX b s0 X w') → K (some (.inl v)) w') : ck_Ex (ch_C g A R) (d + 8) mX12_clause [.inr (.inr 76)] w K := by
  obtain ⟨h1, h2, h3, h4, h5, h6, h7, h8, h9⟩ := id hx
  obtain ⟨s, p, hR, htk, s9, hp⟩ := hS
  obtain ⟨p12, p13, p14, p16, p4, ple, pc⟩ := hp
  obtain ⟨va, hl, -, -⟩ := htk
  have rf : pt X w w := ⟨fun _ _ _ _ => rfl, fun _ _ => rfl, fun _ _ => rfl, id⟩
  have main : ∀ so, (so = 1 ∨ so = 2) → w 76 21 = 2 → tk_k (w 76 21) (w 76 23) = 3 + so → ∃ v', some (.inl so : ck_V) = some (.inl v') ∧ (ck_i v' → (¬ v' = 0 → (0 ≤ (w 76 24) ∧ (w 76 24) < 3200) ∧ ((¬ (w 79 (w 76 24)) = 10 → ck_CN (ch_C g A R) (d + 7) mX12_nextToken [.inr (.inr 76)] w (fun w8 => (0 ≤ (((w8 76 24) + 1) + (3 * (w 79 (w 76 24)))) ∧ (((w8 76 24) + 1) + (3 * (w 79 (w 76 24)))) < 3200) ∧ ((0 ≤ (((w8 76 24) + 2) + (3 * (w 79 (w 76 24)))) ∧ (((w8 76 24) + 2) + (3 * (w 79 (w 76 24)))) < 3200) ∧ (ck_CI (ch_C g A R) (d + 7) mX12_either [.inr (.inr 76)] (ck_up (ck_up w8 79 (((w8 76 24) + 1) + (3 * (w 79 (w 76 24)))) v') 79 (((w8 76 24) + 2) + (3 * (w 79 (w 76 24)))) (w8 76 26)) (fun v15 w14 => (v15 = 0 → (0 ≤ (((w14 76 24) + 3) + (3 * (w 79 (w 76 24)))) ∧ (((w14 76 24) + 3) + (3 * (w 79 (w 76 24)))) < 3200) ∧ ((0 ≤ (w14 76 24) ∧ (w14 76 24) < 3200) ∧ (∀ x24, x24 = (ck_up w14 79 (((w14 76 24) + 3) + (3 * (w 79 (w 76 24)))) (w14 76 26)) 79 (w14 76 24) → ck_i (x24 + 1) ∧ (((w14 76 21) = 59 → ck_CN (ch_C g A R) (d + 7) mX12_nextToken [.inr (.inr 76)] (ck_up (ck_up w14 79 (((w14 76 24) + 3) + (3 * (w 79 (w 76 24)))) (w14 76 26)) 79 (w14 76 24) (x24 + 1)) (fun w29 => K (some (.inl 0)) w29)) ∧ (¬ (w14 76 21) = 59 → K (some (.inl 1)) (ck_up (ck_up w14 79 (((w14 76 24) + 3) + (3 * (w 79 (w 76 24)))) (w14 76 26)) 79 (w14 76 24) (x24 + 1))))))) ∧ (¬ v15 = 0 → K (some (.inl v15)) w14)))))) ∧ ((w 79 (w 76 24)) = 10 → K (some (.inl 4)) w))) ∧ (v' = 0 → K (some (.inl 1)) w)) := by
    intro so hso tk kso
    rw [kso] at hl
    have cs : p_cs s (3 + so) := Or.inl ⟨s9, by omega⟩
    refine ⟨so, rfl, fun _ => ⟨fun _ => ⟨by omega, fun z => ?_, fun z => h 4 w rf (fun _ => ⟨s, p_R_bad hR hl (Or.inr (Or.inr (Or.inr (Or.inl ⟨cs, by omega, by omega, ⟨s9, by omega, by rw [p12, ← h4.2, z]; decide⟩, rfl⟩)))) (by decide)⟩) (fun e => absurd e (by decide))⟩, fun x => by omega⟩⟩
    rw [h4.2] at z ⊢
    have cnt : 0 ≤ w 79 X ∧ w 79 X ≤ 9 := by omega
    have R1 := p_R_go hR hl (p_f0 (v := va) cs (by omega) (by omega) (by omega)) (by omega)
    have et : p_t s (3 + so) va = ck_up (ck_up (ck_up (ck_up s 0 11 (3 + so)) 0 12 (s 0 12 + 1)) 0 10 0) 0 9 1 := by
      unfold p_t
      rw [if_pos s9]
    rw [et] at R1
    -- the first token is used up
    refine S2_X12_nextToken hC (by omega) (by omega) h3 hB.2 (fun w8 i1 i2 i3 i4 i5 => ⟨rfl, ?_⟩)
    rw [← hB.1] at i5
    have e24 : w8 76 24 = X := by rw [i1.2 24 (by omega)]; exact h4.2
    have e26 : w8 76 26 = w 76 26 := i1.2 26 (by omega)
    have e79 : w8 79 = w 79 := i1.1 79 (by decide)
    dsimp only
    rw [e24]
    refine ⟨by omega, by omega, ?_⟩
    have f76 : (ck_up (ck_up w8 79 (X + 1 + 3 * w 79 X) so) 79 (X + 2 + 3 * w 79 X) (w8 76 26)) 76 = w8 76 := rfl
    have p0 : pt X w (ck_up (ck_up w8 79 (X + 1 + 3 * w 79 X) so) 79 (X + 2 + 3 * w 79 X) (w8 76 26)) := pt_tr (pt_pr (pr_nt i1 i4) (by omega) h5) (pt_tr (pt_79 (by omega)) (pt_79 (by omega)))
    have Q0 : sQ b s0 (w 79 X) (w 76 26) 0 (3 + so) (Le 0) (s 2) (ck_up (ck_up w8 79 (X + 1 + 3 * w 79 X) so) 79 (X + 2 + 3 * w 79 X) (w8 76 26)) := by
      refine ⟨_, w 76 19, R1, tkn_c i5 (fun j _ _ => by rw [f76]), ck_up_eq, ⟨?_, ?_, ?_⟩, ⟨?_, ?_⟩, ?_, fun i i0 i1' => by omega, ?_, fun j _ _ => ?_, fun i i0 i1' => ?_, ?_⟩
      · rw [ck_up_nj (by decide), ck_up_eq]
      · simp [ck_up]
      · rw [ck_up_nj (by decide), ck_up_nj (by decide), ck_up_eq, p12]
      · rw [f76, i1.2 30 (by omega)]
        simp [ck_up]
        exact p13
      · simp [ck_up]; exact p14
      · simp [ck_up]; exact p16
      · rw [f76, e26]
        simp [ck_up]
        exact p4
      · rfl
      · rw [f76, e26] at i1'; omega
      · unfold sq
        rw [f76, e26, show (w 76 26 - w 76 26).toNat = 0 by omega]
        rfl
    refine S2_X12_either hC (T := T) (X := X) (f := w 76 26) hT hX cnt.1 (tp_pt hB p0) ⟨?_, ?_, ?_, ?_, ?_, ?_, ?_, ?_⟩ Q0 (fun v w14 b1 bf b2 => ⟨_, rfl, fun _ => ⟨fun e => ?_, fun e => h v w14 (pt_tr p0 (pt_pr b1 (by rw [f76, e24]; omega) (by rw [f76, e26]; exact h5))) bf (fun e' => absurd e' e)⟩⟩)
    · rw [f76, h4.1] at *; omega
    · rw [f76]; exact i3
    · rw [f76]; exact i4
    · rw [f76, i1.2 16 (by omega), e24]; exact ⟨h4.1, rfl⟩
    · rw [f76, e26]; omega
    · rw [f76, e26]; omega
    · rw [f76, i1.2 30 (by omega)]; exact h7
    · rw [f76, e26, show (w 76 26 - w 76 26).toNat = 0 by omega]; rfl
    · obtain ⟨y, yb, ⟨s2, q2, R2, tk2, t9, A2, nop⟩, n6, n7⟩ := b2 e
      obtain ⟨k1, k2, k3, k4, k5, k6, k7, k8⟩ := id y
      rw [f76] at yb
      rw [k4.2]
      obtain ⟨vb, hl2, -, -⟩ := tk2
      have nn : 0 ≤ s2 0 16 := p_U_nn (r := 1) (by rw [A2.2.2.1]; decide)
      have z10 : s2 0 10 = 1 := by have x := A2.1.1; rw [p_U_0 (by decide) (by decide) (by decide)] at x; exact x
      have z14 : s2 0 14 = 0 := by have x := A2.2.1.2; rw [p_U_0 (by decide) (by decide) (by decide)] at x; exact x
      have fr : ∀ j, j < X + 50 + 2 * w 76 26 → w14 79 j = (ck_up (ck_up w8 79 (X + 1 + 3 * w 79 X) so) 79 (X + 2 + 3 * w 79 X) (w8 76 26)) 79 j := fun j hj => b1.2.2.1 j (by rw [f76, e24, e26]; exact hj)
      have x0 : w14 79 X = w 79 X := by rw [fr X (by omega), ck_up_nj (by omega), ck_up_nj (by omega), e79]
      refine ⟨by omega, by omega, fun x24 ex => ?_⟩
      rw [ck_up_nj (by omega), x0] at ex
      subst ex
      have p1 := pt_tr p0 (pt_pr b1 (by rw [f76, e24]; omega) (by rw [f76, e26]; exact h5))
      have p2 : pt X w (ck_up (ck_up w14 79 (X + 3 + 3 * w 79 X) (w14 76 26)) 79 X (w 79 X + 1)) := pt_tr p1 (pt_tr (pt_79 (by omega)) (pt_79 (by omega)))
      refine ⟨by constructor <;> omega, fun t59 => ?_, fun n59 => h 1 _ p2 (fun _ => ⟨s2, p_R_bad R2 hl2 (p_f1 ?_) (by decide)⟩) (fun e => absurd e (by decide))⟩
      rotate_left
      · have n21 : ¬ tk_k (w14 76 21) (w14 76 23) = 21 := fun x => n59 (tk_21.mp x)
        unfold p_cs
        omega
      have k21 : tk_k (w14 76 21) (w14 76 23) = 21 := tk_21.mpr t59
      rw [k21] at hl2
      have cs2 : p_cs s2 21 := Or.inr (Or.inr (Or.inr ⟨t9, Or.inr (Or.inr (Or.inl ⟨by omega, by omega, by decide⟩))⟩))
      have R3 := p_R_go R2 hl2 (p_f0 (v := vb) cs2 (by omega) (by omega) (by omega)) (by decide)
      have eU : p_U s2 0 = p_U s2 1 := by
        rw [← p_UU (r := 0) (r' := 1) (by decide) nn]
        exact p_Ust (Or.inl (by rw [A2.2.2.1]; decide))
      have et2 : p_t s2 21 vb = ck_up (p_emit (p_U s2 1) (20000 + (3 + so))) 0 9 0 := by
        unfold p_t p_tor
        rw [if_neg (by omega), if_pos t9, if_neg (by decide), if_pos rfl, show rk 21 = 0 from rfl, eU, A2.1.2.1]
      rw [et2] at R3
      obtain ⟨a1, ⟨a2, a3⟩, a4, a5, a6, a7, a8, a9⟩ := A2
      have em : p_emit (p_U s2 1) (20000 + (3 + so)) = ck_up (ck_up (p_U s2 1) 2 (p_U s2 1 0 4) (20000 + (3 + so))) 0 4 (p_U s2 1 0 4 + 1) := by
        unfold p_emit
        rw [if_pos (by omega)]
      rw [em, a6] at R3
      -- the new row of texts
      have row : ∀ j, (ck_up (ck_up w14 79 (X + 3 + 3 * w 79 X) (w14 76 26)) 79 X (w 79 X + 1)) 79 j = if j = X then w 79 X + 1 else if j = X + 3 + 3 * w 79 X then w14 76 26 else w14 79 j := fun j => by
        rw [ck_up_at]
        by_cases a : j = X
        · rw [if_pos a, if_pos a]
        · rw [if_neg a, if_neg a, ck_up_at]
      refine S2_X12_nextToken hC (by show 0 ≤ w14 76 19 ∧ w14 76 19 ≤ w14 76 16; omega) (by show w14 76 16 ≤ 300; omega) k3 (tp_pt hB p2).2 (fun w' j1 j2 j3 j4 j5 => ⟨rfl, ?_⟩)
      rw [← (tp_pt hB p2).1] at j5
      have g : ∀ j, j < 19 ∨ 24 ≤ j → w' 76 j = w14 76 j := fun j hj => j1.2 j hj
      have j2' : w14 76 19 ≤ w' 76 20 ∧ w' 76 20 ≤ w' 76 19 ∧ w' 76 19 ≤ w14 76 16 := j2
      have g79 : ∀ j, w' 79 j = if j = X then w 79 X + 1 else if j = X + 3 + 3 * w 79 X then w14 76 26 else w14 79 j := fun j => by rw [j1.1 79 (by decide), row j]
      have tok := k2
      have gX : w' 79 X = w 79 X + 1 := by rw [g79, if_pos rfl]
      have go : ∀ j, X < j → j < X + 50 + 2 * w 76 26 → ¬ j = X + 3 + 3 * w 79 X → ¬ j = X + 1 + 3 * w 79 X → ¬ j = X + 2 + 3 * w 79 X → w' 79 j = w 79 j := fun j c1 c2 c3 c4 c5 => by rw [g79, if_neg (by omega), if_neg c3, fr _ c2, ck_up_nj c5, ck_up_nj c4, e79]
      have g3 : w' 79 (X + 3 + 3 * w 79 X) = w14 76 26 := by rw [g79, if_neg (by omega), if_pos rfl]
      have g2 : w' 79 (X + 2 + 3 * w 79 X) = w 76 26 := by rw [g79, if_neg (by omega), if_neg (by omega), fr _ (by omega), ck_up_eq, e26]
      have g1 : w' 79 (X + 1 + 3 * w 79 X) = so := by rw [g79, if_neg (by omega), if_neg (by omega), fr _ (by omega), ck_up_nj (by omega), ck_up_eq]
      have gs : ∀ j, X + 50 ≤ j → w' 79 j = w14 79 j := fun j hj => by rw [g79, if_neg (by omega), if_neg (by omega)]
      refine h 0 w' (pt_tr p2 (pt_pr (pr_nt j1 j4) (by show X ≤ w14 76 24; omega) (by show 0 ≤ w14 76 26; omega))) (fun e => absurd rfl e) (fun _ => ⟨⟨?_, j3, j4, ?_, ?_, ?_, ?_, ?_, fun k k0 k1' => ?_⟩, by omega, _, w14 76 19, R3, j5, ck_up_eq, ?_, ?_, ?_, ?_, ?_, ?_, ?_, ?_, fun k k0 k1' => ?_⟩)
      · rw [k4.1] at j2'; omega
      · rw [g 16 (by omega), g 24 (by omega)]; exact k4
      · rw [g 26 (by omega)]; omega
      · rw [g 26 (by omega)]; omega
      · rw [g 30 (by omega)]; exact k7
      · rw [gX]; omega
      · rw [gX] at k1'
        rw [g 26 (by omega)]
        by_cases a : k = w 79 X
        · subst a
          refine ⟨⟨by rw [g2]; exact h5, by rw [g2, g3]; exact k5.2, by rw [g3]; omega, ?_⟩, by rw [g3]; omega⟩
          rw [g2, g3, tx_c (t := w14 79) (fun j y z => gs j (by omega))]
          exact k8
        · have o := h9 k k0 (by omega)
          have o3' : w' 79 (X + 3 + 3 * k) = w 79 (X + 3 + 3 * k) := go _ (by omega) (by omega) (by omega) (by omega) (by omega)
          refine ⟨?_, by rw [o3']; omega⟩
          obtain ⟨o1, o2, o3, o4⟩ := o.1
          have o2' : w' 79 (X + 2 + 3 * k) = w 79 (X + 2 + 3 * k) := go _ (by omega) (by omega) (by omega) (by omega) (by omega)
          refine ⟨by rw [o2']; exact o1, by rw [o2', o3']; exact o2, by rw [o3']; exact o3, ?_⟩
          rw [o2', o3', tx_c (t := w 79) (fun j y z => go j (by omega) (by omega) (by omega) (by omega) (by omega))]
          exact o4
      · rw [gX]
        simp [ck_up]
        exact a1.2.2
      · rw [g 30 (by omega)]
        simp [ck_up]
        omega
      · simp [ck_up]; exact a3
      · simp [ck_up]; exact a4
      · rw [gX, g 26 (by omega), ck_up_nj (by decide), ck_up_eq]; omega
      · rw [gX, g 26 (by omega)]; omega
      · rw [gX]; exact fun x => by omega
      · rw [gX, g 26 (by omega)]
        intro _
        rw [show X + 3 * (w 79 X + 1) = X + 3 + 3 * w 79 X by omega]
        exact g3
      · rw [gX] at k1'
        have cc : ∀ j, (ck_up (ck_up (ck_up (p_U s2 1) 2 (w 79 X + w14 76 26) (20000 + (3 + so))) 0 4 (w 79 X + w14 76 26 + 1)) 0 9 0) 2 j = if j = w 79 X + w14 76 26 then 20000 + (3 + so) else p_U s2 1 2 j := fun j => by rw [ck_up_ne (by decide), ck_up_ne (by decide), ck_up_at]
        by_cases a : k = w 79 X
        · subst a
          rw [g1, g2, g3]
          refine ⟨hso, ?_, fun i i0 i1' => ?_, ?_, ?_⟩
          · by_cases a : w 79 X = 0
            · rw [if_pos a]; exact pc.1 a
            · rw [if_neg a, go _ (by omega) (by omega) (by omega) (by omega) (by omega)]
              exact (pc.2.1 (by omega)).symm
          · rw [cc, if_neg (by omega), gs _ (by omega), gs _ (by omega)]
            have q := a8 i i0 i1'
            rw [k4.2] at q
            exact q
          · rw [cc, if_pos rfl]; omega
          · unfold sq at a9
            rw [k4.2, k8] at a9
            rw [tx_c2 (t := w14 79) (fun j y z => gs j (by omega))]
            exact a9
        · obtain ⟨o1, o2, o3, o4, o5⟩ := pc.2.2 k k0 (by omega)
          have c9 := h9 k k0 (by omega)
          have t1 := c9.1.1
          have t2 := c9.1.2.1
          have t3 := c9.2
          have r1 : w' 79 (X + 1 + 3 * k) = w 79 (X + 1 + 3 * k) := go _ (by omega) (by omega) (by omega) (by omega) (by omega)
          have r2 : w' 79 (X + 2 + 3 * k) = w 79 (X + 2 + 3 * k) := go _ (by omega) (by omega) (by omega) (by omega) (by omega)
          have r3 : w' 79 (X + 3 + 3 * k) = w 79 (X + 3 + 3 * k) := go _ (by omega) (by omega) (by omega) (by omega) (by omega)
          rw [r1, r2, r3]
          refine ⟨o1, ?_, fun i i0 i1' => ?_, ?_, ?_⟩
          · by_cases a0 : k = 0
            · rw [if_pos a0]; rw [if_pos a0] at o2; exact o2
            · rw [if_neg a0, go _ (by omega) (by omega) (by omega) (by omega) (by omega)]
              rw [if_neg a0] at o2
              exact o2
          · rw [cc, if_neg (by omega), a7 _ (by omega) (by omega), go _ (by omega) (by omega) (by omega) (by omega) (by omega), go _ (by omega) (by omega) (by omega) (by omega) (by omega)]
            exact o3 i i0 i1'
          · rw [cc, if_neg (by omega), a7 _ (by omega) (by omega)]
            exact o4
          · rw [tx_c2 (t := w 79) (fun j y z => go j (by omega) (by omega) (by omega) (by omega) (by omega))]
            exact o5
  refine e_X12_clause hC (e_X12_sortOf hC ?_)
  rw [kc_ink, kc_bare]
  refine ⟨fun z => main 1 (by omega) z.1 (tk_4.mpr z), fun n1 => ⟨fun z => main 2 (by omega) z.1 (tk_5.mpr z), fun n2 => ⟨0, rfl, fun _ => ⟨fun x => absurd rfl x, fun _ => h 1 w rf (fun _ => ⟨s, p_R_bad hR hl (p_f1 ?_) (by decide)⟩) (fun e => absurd e (by decide))⟩⟩⟩⟩
  have m4 : ¬ tk_k (w 76 21) (w 76 23) = 4 := fun x => n1 (tk_4.mp x)
  have m5 : ¬ tk_k (w 76 21) (w 76 23) = 5 := fun x => n2 (tk_5.mp x)
  have m0 : ¬ tk_k (w 76 21) (w 76 23) = 0 := fun x => h0 (tk_0.mp x)
  unfold p_cs
  omega
theorem S2_X12_readText {g : ch_G} {A R : Nat} (hC : ck_Cx g A R) {d : Nat} {K : Option ck_V → ck_W → Prop} {w : ck_W} {b : Int → Int} {s0 : ck_W} (hI : rm_I A R w) (h4 : w 77 0 < 4) (hB : tp b w) (hs : p_0 s0) (h : ∀ v w', pt (800 * w 77 0) w w' → (¬ v = 0 → ∃ z, p_O b 0 s0 v (w' 76 20) z) → (v = 0 → tx_ok (w' 79) (800 * w 77 0) ∧ ∃ z, p_O b 0 s0 0 (-1) z ∧ pX (800 * w 77 0) z w') → K (some (.inl v)) w') : ck_Ex (ch_C g A R) (d + 9) mX12_readText [.inr (.inr 76)] w K := by
  have f0 := rm_c0 hI.2.2.2.1
  have t0 := hI.2.2.2.2.2.2.1
  have t1 := hI.2.2.2.2.2.2.2.1
  have l : ∀ (q : Nat) (u : ck_W), 301 - u 76 20 ≤ q → pt (800 * w 77 0) w u → px (w 76 16) (800 * w 77 0) u → sX b s0 (800 * w 77 0) u → ck_At (ch_C g A R) (d + 9) mX12_readText K 43 [some (.inr (.inr 76)), none] [] u := by
    intro q
    induction q with
    | zero =>
      intro u q1 _ q3 _
      have := q3.1
      omega
    | succ q ih =>
      intro u q1 q2 q3 q4
      obtain ⟨_, _, _, _, _, _, _, c8, c9⟩ := id q3
      refine r_X12_readText_43 hC ⟨fun z => h 0 u q2 (fun e => absurd rfl e) (fun _ => ⟨⟨c8.1, c8.2, fun k k0 k1 => (c9 k k0 k1).1⟩, ?_⟩), fun z => ?_⟩
      · obtain ⟨s, p, hR, ⟨v, hl, -, -⟩, s9, hp⟩ := q4
        rw [tk_0.mpr z] at hl
        exact ⟨s, p_R_fin hR hl (p_f0 (Or.inl ⟨s9, by decide⟩) (by omega) (by omega) (by omega)), hp⟩
      · exact S2_X12_clause hC (by omega) (by omega) (tp_pt hB q2) q3 z q4 (fun v w2 b1 bf b2 => ⟨_, rfl, fun _ => ⟨fun e => ih w2 (by have := (b2 e).2.1; omega) (pt_tr q2 b1) (b2 e).1 (b2 e).2.2, fun e => h v w2 (pt_tr q2 b1) bf (fun e' => absurd e' e)⟩⟩)
  refine e_X12_readText hC ⟨by constructor <;> omega, by omega, ?_⟩
  obtain ⟨a1, a2, a3, a4, a5, a6, a7, a8⟩ := rt_0 (w := w) (X := 800 * w 77 0)
  generalize (ck_up (ck_up (ck_up (ck_up (ck_up w 76 24 (800 * w 77 0)) 79 (800 * w 77 0) 0) 76 26 0) 76 30 0) 76 19 0) = U at *
  have b16 := a2 16 (by decide) (by decide) (by decide) (by decide)
  have b22 := a2 22 (by decide) (by decide) (by decide) (by decide)
  have hBU : tp b U := tp_c hB b16 (a1 89 (by decide) (by decide))
  refine S2_X12_nextToken hC (by omega) (by omega) (by omega) hBU.2 (fun u i1 i2 i3 i4 i5 => ⟨rfl, l 301 u (by omega) ⟨fun k x y z => (i1.1 k x).trans (a1 k x y), fun j hj => (i1.2 j (by omega)).trans (a2 j (by omega) (by omega) (by omega) (by omega)), fun j hj => ?_, fun _ => i4⟩ ⟨by omega, i3, i4, ?_, ?_, ?_, ?_, ?_, fun k k0 k1 => ?_⟩ ?_⟩)
  · rw [i1.1 79 (by decide)]; exact a8 j (by omega)
  · rw [i1.2 16 (by omega), i1.2 24 (by omega)]; exact ⟨b16, a3⟩
  · rw [i1.2 26 (by omega)]; omega
  · rw [i1.2 26 (by omega)]; omega
  · rw [i1.2 30 (by omega)]; omega
  · rw [i1.1 79 (by decide)]; omega
  · rw [i1.1 79 (by decide), a7] at k1; omega
  · obtain ⟨p4, p9, p12, p13, p14, p16⟩ := hs
    rw [← hBU.1, a6] at i5
    refine ⟨s0, 0, fun _ _ _ x => x, i5, p9, ?_, ?_, p14, p16, ?_, ?_, ?_, ?_, fun k k0 k1 => ?_⟩
    · rw [i1.1 79 (by decide), a7]; exact p12
    · rw [i1.2 30 (by omega), a5]; exact p13
    · rw [i1.1 79 (by decide), a7, i1.2 26 (by omega), a4]; exact p4
    · rw [i1.1 79 (by decide), a7, i1.2 26 (by omega), a4]; omega
    · rw [i1.2 26 (by omega)]; exact fun _ => a4
    · rw [i1.1 79 (by decide), a7]; exact fun x => by omega
    · rw [i1.1 79 (by decide), a7] at k1; omega
