/-! ===== the class's reader: where the machine comes to ===== -/
def p_0 (s : ck_W) : Prop := s 0 4 = 0 ∧ s 0 9 = 0 ∧ s 0 12 = 0 ∧ s 0 13 = 0 ∧ s 0 14 = 0 ∧ s 0 16 = 0
theorem p2_X6_readInto {g : ch_G} {A R : Nat} (hC : ck_Cx g A R) {d : Nat} {K : Option ck_V → ck_W → Prop} {w : ck_W} {a2 : Int} (hz : cs_Pz w) (h2 : 0 ≤ a2 ∧ a2 ≤ 900)
    (h : ∀ v w' s0 f z, cp_S w a2 30000 w' → p_0 s0 → p_O (tb (w 67 1) (w 68)) 0 s0 f (w' 67 3) z → w' 67 2 = f → ((v = 0 ∧ ¬ f = 0) ∨ (v = 1 ∧ f = 0 ∧ w' 67 4 = z 0 4 ∧ ∀ i, 0 ≤ i → i < 300 → w' 11 (a2 + i) = z 2 i)) → K (some (.inl v)) w') : ck_Ex (ch_C g A R) (d + 8) mX6_readInto [.inr (.inr 67), .inr (.inr 11), .inl a2] w K := by
  obtain ⟨ht, hn, hk⟩ := hz
  have t1 := ht.1
  have lp : ∀ (s0 : ck_W), p_0 s0 → ∀ (m : Nat) (a3 : Int) (u s : ck_W), 301 - a3 = m → 0 ≤ a3 → cp_S w a2 (70 * a3) u → pV a2 u s → p_R (tb (w 67 1) (w 68)) s0 (u 67 8) s → a3 ≤ u 67 8 → ck_At (ch_C g A R) (d + 8) mX6_readInto K 42 [some (.inr (.inr 67)), some (.inr (.inr 11)), some (.inl a2), some (.inl a3)] [] u := by
    intro s0 hs0 m
    induction m with
    | zero =>
      intro a3 u s g1 g2 g3 gv gr g8
      have n := g3.2.2.2.2.2.2
      have n1 := g3.2.1
      unfold cp_N at n
      exact absurd (show (301 : Int) ≤ 300 by omega) (by decide)
    | succ m ih =>
      intro a3 u s g1 g2 g3 gv gr g8
      refine r_X6_readInto_42 hC ⟨fun q => absurd q (by omega), fun _ => p2_X6_scanToken hC ht g3 gv (fun w1 v s1 v1 l1 q6 => ⟨rfl, p2_X6_faultHere hC v1 (fun e => q6 (Or.inl e)) (fun f pf hb => ⟨_, rfl, fun _ => ?_⟩)⟩)⟩
      have n1 := s1.2.2.2.2.2.2
      unfold cp_N at n1
      have le := lx_le l1
      have vv : pV a2 (ck_up w1 67 2 f) s := pV_j v1
      have e5 : (ck_up w1 67 2 f) 67 5 = w1 67 5 := ck_up_nj (by decide)
      have e6 : (ck_up w1 67 2 f) 67 6 = w1 67 6 := ck_up_nj (by decide)
      have e8 : (ck_up w1 67 2 f) 67 8 = w1 67 8 := ck_up_nj (by decide)
      refine ⟨fun y => ⟨fun y2 => p2_X6_take (v := v) hC (cp_up s1 (fun k hk => by simp [ck_up, hk]) (by simp [ck_up]) (by simp [ck_up]) (by simp [cp_N, ck_up]; omega)) vv (by rw [e5, e6]; exact q6) (by omega) h2 (fun w' k kv k8 => ⟨rfl, by constructor <;> omega, ?_⟩), fun y2 => ?_⟩, fun y => ?_⟩
      · rw [e5] at kv
        rw [e8] at k8
        subst y
        refine ih (a3 + 1) w' _ (by omega) (by omega) (cp_mo k (by omega)) kv ?_ (by omega)
        rw [k8]
        exact p_R_go gr l1 pf y2
      · subst y
        rw [y2] at l1 pf
        refine h _ _ s0 0 s (cp_mo (cp_up (c := 70 * a3) s1 (fun k hk => by simp [ck_up, hk]) (by simp [ck_up]) (by simp [ck_up]) (by simp [cp_N, ck_up]; omega)) (by omega)) hs0 ?_ (by rw [ck_up_eq]) (Or.inr ⟨rfl, rfl, ?_, fun i i0 i1 => ?_⟩)
        · rw [ck_up_nj (by decide), v1.2.2.2]
          exact p_R_fin gr l1 pf
        · rw [ck_up_nj (by decide), v1.1 4 (by omega)]
        · rw [ck_up_ne (by decide), v1.2.2.1 i i0 i1]
      · refine h _ _ s0 f s (cp_mo (cp_up (c := 70 * a3) s1 (fun k hk => by simp [ck_up, hk]) (by simp [ck_up]) (by simp [ck_up]) (by simp [cp_N, ck_up]; omega)) (by omega)) hs0 ?_ (by rw [ck_up_nj (by decide), ck_up_eq]) (Or.inl ⟨rfl, y⟩)
        rw [ck_up_eq]
        exact p_R_bad gr l1 pf y
  have W : ∃ u, u = (ck_up (ck_up (ck_up (ck_up (ck_up (ck_up (ck_up (ck_up w 67 3 (-1)) 67 4 0) 67 8 0) 67 9 0) 67 12 0) 67 13 0) 67 14 0) 67 16 0) := ⟨_, rfl⟩
  obtain ⟨u, hu⟩ := W
  have c1 : cp_S w a2 (70 * 0) u := by
    rw [hu]
    refine ⟨fun k a _ _ => by simp [ck_up, a], by simp [ck_up], fun j _ => by simp [ck_up], by simp [ck_up], fun i i0 i1 => ?_, fun i i0 i1 => ?_, ?_⟩
    · simp [ck_up] at i1; omega
    · simp [ck_up]; exact hk i i0 i1
    · simp [cp_N, ck_up]; omega
  have q : u 67 4 = 0 ∧ u 67 9 = 0 ∧ u 67 12 = 0 ∧ u 67 13 = 0 ∧ u 67 14 = 0 ∧ u 67 16 = 0 := by rw [hu]; simp [ck_up]
  have q8 : u 67 8 = 0 := by rw [hu]; simp [ck_up]
  have q3 : u 67 3 = -1 := by rw [hu]; simp [ck_up]
  refine e_X6_readInto hC ?_
  rw [← hu]
  exact lp (fun c j => if c = 0 then u 67 j else if c = 1 then u 69 j else u 11 (a2 + j)) q 301 0 u _ (by omega) (by omega) c1 ⟨fun j _ => rfl, fun j => rfl, fun i _ _ => rfl, q3⟩ (by rw [q8]; exact fun _ _ _ x => x) (by omega)
theorem C2_reader {g : ch_G} {A R : Nat} (hC : ck_Cx g A R) {d : Nat} {K : Option ck_V → ck_W → Prop} {w : ck_W} (hz : cs_Pz w) (hR : cs_Cd w) (h4 : ¬ w 10 3 < 4 → K (some (.inl (-1))) w) (h : w 10 3 < 4 → ∀ v w' s0 f z, (∀ k, k ≠ 67 → k ≠ 69 → k ≠ 10 → k ≠ 11 → k ≠ 12 → k ≠ 13 → w' k = w k) → cs_Cd w' → cs_Pz w' → p_0 s0 → p_O (tb (w 67 1) (w 68)) 0 s0 f (w' 67 3) z → w' 67 2 = f → w' 67 1 = 0 → (∀ j, j < w 10 3 * 300 ∨ w 10 3 * 300 + 300 ≤ j → w' 11 j = w 11 j) →
      ((¬ f = 0 ∧ v = -1 ∧ w' 10 = w 10 ∧ w' 12 = w 12 ∧ w' 13 = w 13) ∨ (f = 0 ∧ v = w 10 3 ∧ w' 10 = rm_u (w 10) 3 (w 10 3 + 1) ∧ w' 12 = rm_u (w 12) (w 10 3) (z 0 4) ∧ w' 13 = rm_u (w 13) (w 10 3) 0 ∧ ∀ i, 0 ≤ i → i < 300 → w' 11 (w 10 3 * 300 + i) = z 2 i)) → K (some (.inl v)) w') : ck_Ex (ch_C g A R) (d + 9) mX11_reader [.inr (.inr 0)] w K := by
  have r1 := hR.1
  refine e_X11_reader hC ⟨fun q => ⟨by constructor <;> omega, p2_X6_readInto hC hz (by omega) (fun v w3 s0 f z s p0 po pf pv => ⟨_, rfl, fun _ => ?_⟩)⟩, fun q => h4 q⟩
  obtain ⟨s1, s2, s3, s4, s5, s6, s7⟩ := s
  unfold cp_N at s7
  have e10 : w3 10 = w 10 := s1 10 (by decide) (by decide) (by decide)
  have e12 : w3 12 = w 12 := s1 12 (by decide) (by decide) (by decide)
  have e13 : w3 13 = w 13 := s1 13 (by decide) (by decide) (by decide)
  have old : ∀ r, 0 ≤ r → r < w 10 3 → (0 ≤ w 12 r ∧ w 12 r ≤ 300) ∧ ∀ i, 0 ≤ i → i < w 12 r → 0 ≤ w3 11 (r * 300 + i) ∧ w3 11 (r * 300 + i) ≤ 30000 := fun r r0 r1 => by
    have o := hR.2 r r0 r1
    have o1 := o.1
    refine ⟨o1, fun i i0 i1 => ?_⟩
    rw [s3 _ (by omega)]
    exact o.2 i i0 i1
  refine ⟨fun y => ⟨by omega, by rw [e10]; constructor <;> omega, h q _ _ s0 f z (fun k a b c d e f => by simp [ck_up, a, c, e, f]; exact s1 k a b d) ?_ ?_ p0 ?_ ?_ ?_ ?_ ?_⟩, fun y => h q _ _ s0 f z (fun k a b c d e f => by simp [ck_up, a]; exact s1 k a b d) ?_ ?_ p0 ?_ ?_ ?_ ?_ ?_⟩
  · refine ⟨by simp [ck_up]; rw [e10]; omega, fun r r0 r1' => ?_⟩
    simp [ck_up] at r1' ⊢
    rw [e10] at r1'
    by_cases e : r = w 10 3
    · rw [if_pos e]
      refine ⟨s4, fun i i0 i1 => ?_⟩
      rw [e]
      exact s5 i i0 i1
    · rw [if_neg e, e12]
      exact old r r0 (by omega)
  · refine ⟨⟨by simp [ck_up], fun j j0 j1 => by simp [ck_up] at j1; omega⟩, by simp [ck_up]; omega, fun i i0 i1 => by simp [ck_up]; exact s6 i i0 i1⟩
  · simp [ck_up]; exact po
  · simp [ck_up]; exact pf
  · simp [ck_up]
  · intro j hj
    simp [ck_up]
    exact s3 j hj
  · rcases pv with ⟨pv1, pv2⟩ | ⟨pv1, pv2, pv3, pv4⟩
    · exact absurd pv1 y
    · refine Or.inr ⟨pv2, rfl, ?_, ?_, ?_, fun i i0 i1 => ?_⟩
      · rw [ck_up_row, ck_up_ne (by decide), ck_up_ne (by decide), ck_up_ne (by decide), e10]
      · rw [ck_up_ne (by decide), ck_up_ne (by decide), ck_up_row, ck_up_ne (by decide), e12, pv3]
      · rw [ck_up_ne (by decide), ck_up_row, ck_up_ne (by decide), ck_up_ne (by decide), e13]
      · rw [ck_up_ne (by decide), ck_up_ne (by decide), ck_up_ne (by decide), ck_up_ne (by decide)]
        exact pv4 i i0 i1
  · refine ⟨by simp [ck_up]; rw [e10]; omega, fun r r0 r1' => ?_⟩
    simp [ck_up] at r1' ⊢
    rw [e10] at r1'
    rw [e12]
    exact old r r0 r1'
  · refine ⟨⟨by simp [ck_up], fun j j0 j1 => by simp [ck_up] at j1; omega⟩, by simp [ck_up]; omega, fun i i0 i1 => by simp [ck_up]; exact s6 i i0 i1⟩
  · simp [ck_up]; exact po
  · simp [ck_up]; exact pf
  · simp [ck_up]
  · intro j hj
    simp [ck_up]
    exact s3 j hj
  · rcases pv with ⟨pv1, pv2⟩ | ⟨pv1, pv2, pv3, pv4⟩
    · refine Or.inl ⟨pv2, rfl, ?_, ?_, ?_⟩
      · rw [ck_up_ne (by decide), e10]
      · rw [ck_up_ne (by decide), e12]
      · rw [ck_up_ne (by decide), e13]
    · rw [pv1] at y
      exact absurd y (by decide)
