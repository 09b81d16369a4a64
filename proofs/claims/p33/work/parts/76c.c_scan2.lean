/-! ===== the class's tokens: those of 76a ===== -/
theorem cp_tb (w : ck_W) (i : Int) : cp_at w i = tb (w 67 1) (w 68) i := rfl
theorem cp_at0 {w0 u : ck_W} {f b : Int} (h : cp_S w0 f b u) (i : Int) : cp_at u i = tb (w0 67 1) (w0 68) i := by
  unfold cp_at tb
  rw [h.2.1, h.1 68 (by decide) (by decide) (by decide)]
theorem tb_b {T : Int} {t : Int → Int} (ht : ∀ j, 0 ≤ j → j < T → 0 ≤ t j ∧ t j ≤ 255) (i : Int) : (tb T t i = -1 ∧ ¬ (0 ≤ i ∧ i < T)) ∨ ((0 ≤ i ∧ i < T) ∧ 0 ≤ tb T t i ∧ tb T t i ≤ 255) := by
  unfold tb
  by_cases z : 0 ≤ i ∧ i < T
  · rw [if_pos z]; exact Or.inr ⟨z, ht i z.1 z.2⟩
  · rw [if_neg z]; exact Or.inl ⟨rfl, z⟩
theorem p2_X6_scanNumber {g : ch_G} {A R : Nat} (hC : ck_Cx g A R) {d : Nat} {K : Option ck_V → ck_W → Prop} {w : ck_W} {f b : Int} {w0 s : ck_W} (ht : cs_Tp w0) (hs : cp_S w0 f b w) (hv : pV f w s) (hp : w 67 7 = w 67 8)
    (h : ∀ w', cp_S w0 f b w' → pV f w' s → w' 67 5 = 2 → w' 67 7 = w 67 7 → lx_to lx_D (tb (w0 67 1) (w0 68)) (w 67 7) (w' 67 8) → w' 67 6 = lx_n (tb (w0 67 1) (w0 68)) (w 67 7) (w' 67 8 - w 67 7).toNat → K none w') : ck_Ex (ch_C g A R) (d + 2) mX6_scanNumber [.inr (.inr 67)] w K := by
  have n := hs.2.2.2.2.2.2
  unfold cp_N at n
  have lp : ∀ (m : Nat) (a1 : Int) (u : ck_W), 300 - a1 = m → 0 ≤ a1 → cp_S w0 f b u → pV f u s → u 67 5 = 2 → u 67 7 = w 67 7 → u 67 8 = w 67 7 + a1 → (∀ k, w 67 7 ≤ k → k < w 67 7 + a1 → lx_D (tb (w0 67 1) (w0 68) k)) → u 67 6 = lx_n (tb (w0 67 1) (w0 68)) (w 67 7) a1.toNat → ck_At (ch_C g A R) (d + 2) mX6_scanNumber K 12 [some (.inr (.inr 67)), some (.inl a1)] [] u := by
    intro m
    induction m with
    | zero =>
      intro a1 u g1 g0 g2 gv g5 g7 g8 gd g6
      have t := cp_Tp g2 ht
      have t1 := t.1
      have n2 := g2.2.2.2.2.2.2
      unfold cp_N at n2
      refine r_X6_scanNumber_12 hC ⟨fun _ => h u g2 gv g5 g7 ⟨by omega, fun k k0 k1 => gd k k0 (by omega), ?_⟩ (by rw [g6, show u 67 8 - w 67 7 = a1 by omega]), fun q => absurd (by omega) q⟩
      rw [← cp_at0 g2]
      have ab := cp_atb t (u 67 8)
      unfold lx_D
      omega
    | succ m ih =>
      intro a1 u g1 g0 g2 gv g5 g7 g8 gd g6
      have t := cp_Tp g2 ht
      have t1 := t.1
      have n2 := g2.2.2.2.2.2.2
      unfold cp_N at n2
      have ab := cp_atb t (u 67 8)
      have eb := cp_at0 g2 (u 67 8)
      refine r_X6_scanNumber_12 hC ⟨fun q => absurd q (by omega), fun _ => p_X6_at hC t ⟨_, rfl, fun _ => ⟨fun z => p_X6_at hC t ⟨_, rfl, fun _ => ?_⟩, fun z => h u g2 gv g5 g7 ⟨by omega, fun k k0 k1 => gd k k0 (by omega), by rw [← eb]; exact z⟩ (by rw [g6, show u 67 8 - w 67 7 = a1 by omega])⟩⟩⟩
      have mn : 0 ≤ min 10000 ((((u 67 6) * 10) + cp_at u (u 67 8)) - 48) ∧ min 10000 ((((u 67 6) * 10) + cp_at u (u 67 8)) - 48) ≤ 10000 := by omega
      have mv' : min 10000 ((((u 67 6) * 10) + cp_at u (u 67 8)) - 48) = lx_n (tb (w0 67 1) (w0 68)) (w 67 7) (a1 + 1).toNat := by
        rw [show (a1 + 1).toNat = a1.toNat + 1 by omega, lx_n, ← g6, show w 67 7 + ((a1.toNat : Nat) : Int) = u 67 8 by omega, eb]
      dsimp only
      rw [mv'] at mn ⊢
      obtain ⟨mv, hmv⟩ : ∃ mv, mv = lx_n (tb (w0 67 1) (w0 68)) (w 67 7) (a1 + 1).toNat := ⟨_, rfl⟩
      rw [← hmv] at mn ⊢
      refine ⟨by constructor <;> omega, by constructor <;> omega, by constructor <;> omega, ih (a1 + 1) _ (by omega) (by omega) (cp_up g2 (fun k hk => by simp [ck_up, hk]) (by simp [ck_up]) (by simp [ck_up]) (by simp [cp_N, ck_up]; omega)) (by
          have x := pV_j (j := 8) (v := u 67 8 + 1) (pV_j (j := 6) (v := mv) gv)
          exact x) (by simp [ck_up]; exact g5) (by simp [ck_up]; exact g7) (by simp [ck_up]; omega) (fun k k0 k1 => ?_) (by simp [ck_up]; exact hmv)⟩
      by_cases x : k = u 67 8
      · rw [x, ← eb]; exact z
      · exact gd k k0 (by omega)
  have v1 : pV f (ck_up (ck_up w 67 5 2) 67 6 0) s := pV_j (pV_j hv)
  exact e_X6_scanNumber hC (lp 300 0 _ (by omega) (by omega) (cp_up hs (fun k hk => by simp [ck_up, hk]) (by simp [ck_up]) (by simp [ck_up]) (by simp [cp_N, ck_up]; omega)) v1 (by simp [ck_up]) (by simp [ck_up]) (by simp [ck_up]; omega) (fun k k0 k1 => by omega) (by simp [ck_up, lx_n]))
theorem p2_X6_isSameAs {g : ch_G} {A R : Nat} (hC : ck_Cx g A R) {d : Nat} {K : Option ck_V → ck_W → Prop} {w : ck_W} {a1 f b : Int} {w0 : ck_W} (ht : cs_Tp w0) (hs : cp_S w0 f b w) (h1 : 0 ≤ a1 ∧ a1 ≤ 100) (hl : a1 + (w 67 8 - w 67 7) ≤ 68) (k1 : (∀ j, w 67 7 ≤ j → j < w 67 8 → tb (w0 67 1) (w0 68) j = sx 0 (a1 + j - w 67 7)) → K (some (.inl 1)) w) (k0 : ¬ (∀ j, w 67 7 ≤ j → j < w 67 8 → tb (w0 67 1) (w0 68) j = sx 0 (a1 + j - w 67 7)) → K (some (.inl 0)) w) : ck_Ex (ch_C g A R) (d + 4) mX6_isSameAs [.inr (.inr 67), .inl a1] w K := by
  have t := cp_Tp hs ht
  have t1 := t.1
  have n := hs.2.2.2.2.2.2
  unfold cp_N at n
  have lp : ∀ (m : Nat) (a2 : Int), 301 - a2 = m → w 67 7 ≤ a2 → (∀ j, w 67 7 ≤ j → j < a2 → tb (w0 67 1) (w0 68) j = sx 0 (a1 + j - w 67 7)) → ck_At (ch_C g A R) (d + 4) mX6_isSameAs K 5 [some (.inr (.inr 67)), some (.inl a1), some (.inl a2), none] [] w := by
    intro m
    induction m with
    | zero =>
      intro a2 g1 g2 g3
      exact r_X6_isSameAs_5 hC ⟨fun q => k1 (fun j j0 j1 => g3 j j0 (by omega)), fun q => absurd (by omega) q⟩
    | succ m ih =>
      intro a2 g1 g2 g3
      refine r_X6_isSameAs_5 hC ⟨fun q => k1 (fun j j0 j1 => g3 j j0 (by omega)), fun q => ⟨by constructor <;> omega, p_len97 hC ⟨_, rfl, fun _ => ⟨fun z => absurd z (by omega), fun z => p_charAt97 hC (by omega) ⟨_, rfl, fun _ => p_X6_at hC t ⟨_, rfl, fun _ => ⟨fun y => ⟨by constructor <;> omega, ih (a2 + 1) (by omega) (by omega) (fun j j0 j1 => ?_)⟩, fun y => k0 (fun g => y ?_)⟩⟩⟩⟩⟩⟩⟩
      · by_cases x : j = a2
        · rw [x, ← cp_at0 hs]; exact y.symm
        · exact g3 j j0 (by omega)
      · rw [cp_at0 hs]; exact (g a2 g2 (by omega)).symm
  exact e_X6_isSameAs hC (lp (301 - w 67 7).toNat (w 67 7) (by omega) (by omega) (fun j j0 j1 => by omega))
/-- which word comes next in the row of words, and where it begins -/
def kw_n : Nat → Nat
  | 0 => 0
  | k + 1 => kw_n k + (if sx 0 (k : Int) = 32 then 1 else 0)
def kw_f : Nat → Nat
  | 0 => 0
  | k + 1 => if sx 0 (k : Int) = 32 then k + 1 else kw_f k
def kw_c (k : Nat) : Bool := decide (kw_f k ≤ k ∧ kw_n k ≤ k) && (decide (¬ sx 0 (k : Int) = 32) || decide (kw_o (kw_n k) = kw_f k ∧ kw_l (kw_n k) = k - kw_f k ∧ kw_n k < 14))
theorem kw_ca : (List.range 68).all kw_c = true := by decide +kernel
theorem kw_cc {k : Nat} (h : k < 68) : (kw_f k ≤ k ∧ kw_n k ≤ k) ∧ (sx 0 (k : Int) = 32 → kw_o (kw_n k) = kw_f k ∧ kw_l (kw_n k) = k - kw_f k ∧ kw_n k < 14) := by
  have a := List.all_eq_true.mp kw_ca k (List.mem_range.mpr h)
  unfold kw_c at a
  simp only [Bool.and_eq_true, Bool.or_eq_true, decide_eq_true_eq] at a
  exact ⟨a.1, fun q => a.2.resolve_left (fun z => z q)⟩
theorem kw_68 : kw_n 68 = 14 := by decide +kernel
theorem p2_X6_numberOfKnown {g : ch_G} {A R : Nat} (hC : ck_Cx g A R) {d : Nat} {K : Option ck_V → ck_W → Prop} {w : ck_W} {f b : Int} {w0 : ck_W} (ht : cs_Tp w0) (hs : cp_S w0 f b w) (h : ∀ v, kw_r (tb (w0 67 1) (w0 68)) (w 67 7) (w 67 8) v → K (some (.inl v)) w) : ck_Ex (ch_C g A R) (d + 5) mX6_numberOfKnown [.inr (.inr 67)] w K := by
  have t := cp_Tp hs ht
  have t1 := t.1
  have n := hs.2.2.2.2.2.2
  unfold cp_N at n
  have lp : ∀ (m k : Nat), 68 - k = m → k ≤ 68 → (∀ j : Nat, j < kw_n k → ¬ kw_m (tb (w0 67 1) (w0 68)) (w 67 7) (w 67 8) j) → ck_At (ch_C g A R) (d + 5) mX6_numberOfKnown K 6 [some (.inr (.inr 67)), some (.inl ((kw_n k : Nat) : Int)), some (.inl ((kw_f k : Nat) : Int)), some (.inl (k : Int))] [] w := by
    intro m
    induction m with
    | zero =>
      intro k g1 g2 g3
      have e : k = 68 := by omega
      refine r_X6_numberOfKnown_6 hC (p_len97 hC ⟨_, rfl, fun _ => ⟨fun _ => h _ (Or.inr ⟨rfl, fun j hj => g3 j ?_⟩), fun q => absurd (by omega) q⟩⟩)
      rw [e, kw_68]; exact hj
    | succ m ih =>
      intro k g1 g2 g3
      have c := kw_cc (show k < 68 by omega)
      have nx := ih (k + 1) (by omega) (by omega)
      have cst : (((k + 1 : Nat)) : Int) = (k : Int) + 1 := by omega
      refine r_X6_numberOfKnown_6 hC (p_len97 hC ⟨_, rfl, fun _ => ⟨fun q => absurd q (by omega), fun _ => p_charAt97 hC (by omega) ⟨_, rfl, fun _ => ⟨fun z => ⟨by constructor <;> omega, ?_⟩, fun z => ?_⟩⟩⟩⟩)
      · rw [kw_n, kw_f, if_neg z, if_neg z, cst] at nx
        exact nx g3
      · obtain ⟨c1, c2, c3⟩ := c.2 z
        rw [kw_n, kw_f, if_pos z, if_pos z, cst, show ((kw_n k + 1 : Nat) : Int) = (kw_n k : Int) + 1 by omega] at nx
        have c0 := c.1
        have no : ¬ kw_m (tb (w0 67 1) (w0 68)) (w 67 7) (w 67 8) (kw_n k) → ck_At (ch_C g A R) (d + 5) mX6_numberOfKnown K 6 [some (.inr (.inr 67)), some (.inl ((kw_n k : Nat) + 1 : Int)), some (.inl ((k : Int) + 1)), some (.inl ((k : Int) + 1))] [] w := fun y => nx (fun j hj => by
          by_cases x : j = kw_n k
          · rw [x]; exact y
          · exact g3 j (by omega))
        refine ⟨by constructor <;> omega, by constructor <;> omega, fun y => ⟨by constructor <;> omega, by constructor <;> omega, no (fun x => y ?_)⟩, fun y => p2_X6_isSameAs hC ht hs (by omega) (by omega) (fun x => ⟨_, rfl, fun _ => ⟨fun z => absurd z (by decide), fun _ => h _ (Or.inl ⟨by omega, by omega, ?_⟩)⟩⟩) (fun x => ⟨_, rfl, fun _ => ⟨fun _ => ⟨by constructor <;> omega, by constructor <;> omega, no (fun x2 => x ?_)⟩, fun z => absurd rfl z⟩⟩)⟩
        · have := x.1
          rw [c2] at this
          omega
        · rw [Int.toNat_natCast]
          refine ⟨by rw [c2]; omega, fun j hj => ?_⟩
          rw [c2] at hj
          rw [x _ (by omega) (by omega), c1, show ((kw_f k : Nat) : Int) + (w 67 7 + (j : Int)) - w 67 7 = ((kw_f k + j : Nat) : Int) by omega]
        · intro j j0 j1
          have q := x2.2 (j - w 67 7).toNat (by rw [c2]; omega)
          rw [c1, show w 67 7 + (((j - w 67 7).toNat : Nat) : Int) = j by omega] at q
          rw [q, show ((kw_f k + (j - w 67 7).toNat : Nat) : Int) = (kw_f k : Int) + j - w 67 7 by omega]
  exact e_X6_numberOfKnown hC (lp 68 0 rfl (by omega) (fun j hj => by rw [kw_n] at hj; omega))
theorem p2_X6_scanLetters {g : ch_G} {A R : Nat} (hC : ck_Cx g A R) {d : Nat} {K : Option ck_V → ck_W → Prop} {w : ck_W} {f b : Int} {w0 s : ck_W} (ht : cs_Tp w0) (hs : cp_S w0 f b w) (hv : pV f w s) (hp : w 67 7 = w 67 8)
    (h : ∀ w' i, cp_S w0 f b w' → pV f w' s → w' 67 7 = w 67 7 → lx_to lx_L (tb (w0 67 1) (w0 68)) (w 67 7) (w' 67 8) → kw_r (tb (w0 67 1) (w0 68)) (w 67 7) (w' 67 8) i → ((i = -1 ∧ w' 67 5 = 1) ∨ (0 ≤ i ∧ i < 5 ∧ w' 67 5 = 4 + i) ∨ (5 ≤ i ∧ i < 14 ∧ w' 67 5 = 3 ∧ w' 67 6 = i - 5)) → K none w') : ck_Ex (ch_C g A R) (d + 6) mX6_scanLetters [.inr (.inr 67)] w K := by
  have fin : ∀ u : ck_W, cp_S w0 f b u → pV f u s → u 67 7 = w 67 7 → lx_to lx_L (tb (w0 67 1) (w0 68)) (w 67 7) (u 67 8) → ck_CI (ch_C g A R) (d + 5) mX6_numberOfKnown [.inr (.inr 67)] u (fun v2 w1 => (¬ v2 = (-1) → (5 ≤ v2 → ck_i (v2 - 5) ∧ (K none (ck_up (ck_up w1 67 5 3) 67 6 (v2 - 5)))) ∧ (¬ 5 ≤ v2 → ck_i (4 + v2) ∧ (K none (ck_up w1 67 5 (4 + v2))))) ∧ (v2 = (-1) → K none (ck_up w1 67 5 1))) := by
    intro u g gv g7 gl
    have n := g.2.2.2.2.2.2
    unfold cp_N at n
    refine p2_X6_numberOfKnown hC ht g (fun v hr => ⟨_, rfl, fun _ => ?_⟩)
    have hb : (0 ≤ v ∧ v < 14) ∨ v = -1 := by
      rcases hr with r | r
      · exact Or.inl ⟨r.1, r.2.1⟩
      · exact Or.inr r.1
    rw [g7] at hr
    have s1 : ¬ v = -1 → ¬ 5 ≤ v → cp_S w0 f b (ck_up u 67 5 (4 + v)) := fun _ _ => cp_up g (fun k hk => by simp [ck_up, hk]) (by simp [ck_up]) (by simp [ck_up]) (by simp [cp_N, ck_up]; omega)
    have s2 : 5 ≤ v → cp_S w0 f b (ck_up (ck_up u 67 5 3) 67 6 (v - 5)) := fun _ => cp_up g (fun k hk => by simp [ck_up, hk]) (by simp [ck_up]) (by simp [ck_up]) (by simp [cp_N, ck_up]; omega)
    refine ⟨fun y => ⟨fun y2 => ⟨by constructor <;> omega, h _ v (s2 y2) (pV_j (pV_j gv)) (by simp [ck_up]; exact g7) (by simp [ck_up]; exact gl) (by simp [ck_up]; exact hr) (Or.inr (Or.inr ⟨y2, by omega, by simp [ck_up], by simp [ck_up]⟩))⟩, fun y2 => ⟨by constructor <;> omega, h _ v (s1 y y2) (pV_j gv) (by simp [ck_up]; exact g7) (by simp [ck_up]; exact gl) (by simp [ck_up]; exact hr) (Or.inr (Or.inl ⟨by omega, by omega, by simp [ck_up]⟩))⟩⟩, fun y => h _ v (cp_up g (fun k hk => by simp [ck_up, hk]) (by simp [ck_up]) (by simp [ck_up]) (by simp [cp_N, ck_up]; omega)) (pV_j gv) (by simp [ck_up]; exact g7) (by simp [ck_up]; exact gl) (by simp [ck_up]; exact hr) (Or.inl ⟨y, by simp [ck_up]⟩)⟩
  have n := hs.2.2.2.2.2.2
  unfold cp_N at n
  have lp : ∀ (m : Nat) (a1 : Int) (u : ck_W), 300 - a1 = m → 0 ≤ a1 → cp_S w0 f b u → pV f u s → u 67 7 = w 67 7 → u 67 8 = w 67 7 + a1 → (∀ k, w 67 7 ≤ k → k < w 67 7 + a1 → lx_L (tb (w0 67 1) (w0 68) k)) → ck_At (ch_C g A R) (d + 6) mX6_scanLetters K 2 [some (.inr (.inr 67)), some (.inl a1)] [] u := by
    intro m
    induction m with
    | zero =>
      intro a1 u g1 g0 g2 gv g7 g8 gd
      have t := cp_Tp g2 ht
      have t1 := t.1
      refine r_X6_scanLetters_2 hC ⟨fun _ => fin u g2 gv g7 ⟨by omega, fun k k0 k1 => gd k k0 (by omega), ?_⟩, fun q => absurd (by omega) q⟩
      rw [← cp_at0 g2]
      have ab := cp_atb t (u 67 8)
      unfold lx_L
      omega
    | succ m ih =>
      intro a1 u g1 g0 g2 gv g7 g8 gd
      have t := cp_Tp g2 ht
      have t1 := t.1
      have n2 := g2.2.2.2.2.2.2
      unfold cp_N at n2
      have ab := cp_atb t (u 67 8)
      have eb := cp_at0 g2 (u 67 8)
      refine r_X6_scanLetters_2 hC ⟨fun q => absurd q (by omega), fun _ => p_X6_at hC t ⟨_, rfl, fun _ => ⟨fun z => ⟨by constructor <;> omega, by constructor <;> omega, ih (a1 + 1) _ (by omega) (by omega) (cp_up g2 (fun k hk => by simp [ck_up, hk]) (by simp [ck_up]) (by simp [ck_up]) (by simp [cp_N, ck_up]; omega)) (pV_j gv) (by simp [ck_up]; exact g7) (by simp [ck_up]; omega) (fun k k0 k1 => ?_)⟩, fun z => fin u g2 gv g7 ⟨by omega, fun k k0 k1 => gd k k0 (by omega), by rw [← eb]; exact z⟩⟩⟩⟩
      by_cases x : k = u 67 8
      · rw [x, ← eb]; exact z
      · exact gd k k0 (by omega)
  exact e_X6_scanLetters hC (lp 300 0 w (by omega) (by omega) hs hv rfl (by omega) (fun k k0 k1 => by omega))
def sg_i (c : Int) : Int := if c = 60 then 0 else if c = 32 then 1 else if c = 62 then 2 else if c = 61 then 4 else if c = 35 then 5 else if c = 43 then 6 else if c = 45 then 7 else if c = 42 then 8 else if c = 47 then 9 else if c = 40 then 10 else if c = 41 then 11 else if c = 59 then 12 else -1
theorem sg_ia : (List.range 256).all (fun n => decide (tx_f (ck_i2b n) 13 0 = sg_i n)) = true := by decide +kernel
theorem sg_ie {c : Int} (h : 0 ≤ c ∧ c ≤ 255) : tx_f (ck_i2b c) 13 0 = sg_i c := by
  have e : ((c.toNat : Nat) : Int) = c := by omega
  have a := List.all_eq_true.mp sg_ia c.toNat (List.mem_range.mpr (by omega))
  rw [e, decide_eq_true_eq] at a
  exact a
theorem sg_ik {c d : Int} (h : ¬ c = 32) : sg_k c d = (if sg_i c = -1 then 1 else if (sg_i c = 0 ∨ sg_i c = 2) ∧ d = 61 then 10 + sg_i c else 9 + sg_i c) ∧ sg_n c d = (if (sg_i c = 0 ∨ sg_i c = 2) ∧ d = 61 then 2 else 1) := by
  unfold sg_k sg_i sg_n
  repeat' split
  all_goals first | omega | (constructor <;> omega)
theorem p2_X6_scanSign {g : ch_G} {A R : Nat} (hC : ck_Cx g A R) {d : Nat} {K : Option ck_V → ck_W → Prop} {w : ck_W} {a1 f b : Int} {w0 s : ck_W} (ht : cs_Tp w0) (hs : cp_S w0 f b w) (hv : pV f w s) (h1 : 0 ≤ a1 ∧ a1 ≤ 255) (h32 : ¬ a1 = 32) (hn : w 67 8 < w 67 1)
    (h : ∀ w', cp_S w0 f b w' → pV f w' s → w' 67 7 = w 67 7 → w' 67 5 = sg_k a1 (tb (w0 67 1) (w0 68) (w 67 8 + 1)) → w' 67 8 = w 67 8 + sg_n a1 (tb (w0 67 1) (w0 68) (w 67 8 + 1)) → K none w') : ck_Ex (ch_C g A R) (d + 4) mX6_scanSign [.inr (.inr 67), .inl a1] w K := by
  have t := cp_Tp hs ht
  have t1 := t.1
  have n := hs.2.2.2.2.2.2
  unfold cp_N at n
  have c := tx_ci h1
  have sk := sg_ik (c := a1) (d := tb (w0 67 1) (w0 68) (w 67 8 + 1)) h32
  rw [sk.1, sk.2] at h
  refine e_X6_scanSign hC ⟨by constructor <;> omega, ?_⟩
  rw [c.1]
  have s1 : cp_S w0 f b (ck_up w 67 8 (w 67 8 + 1)) := cp_up hs (fun k hk => by simp [ck_up, hk]) (by simp [ck_up]) (by simp [ck_up]) (by simp [cp_N, ck_up]; omega)
  have v1 : pV f (ck_up w 67 8 (w 67 8 + 1)) s := pV_j hv
  have e8 : (ck_up w 67 8 (w 67 8 + 1)) 67 8 = w 67 8 + 1 := ck_up_eq
  have e7 : (ck_up w 67 8 (w 67 8 + 1)) 67 7 = w 67 7 := ck_up_nj (by decide)
  refine p_indexOf98 hC h1 ⟨_, rfl, fun _ => ?_⟩
  rw [sg_ie h1] at c ⊢
  generalize sg_i a1 = v at *
  have n1 := s1.2.2.2.2.2.2
  unfold cp_N at n1
  generalize (ck_up w 67 8 (w 67 8 + 1)) = u at *
  have k9 : -1 ≤ v → v ≠ -1 → v ≤ 12 → cp_S w0 f b (ck_up u 67 5 (9 + v)) := fun _ _ _ => cp_up s1 (fun k hk => by simp [ck_up, hk]) (by simp [ck_up]) (by simp [ck_up]) (by simp [cp_N, ck_up]; omega)
  have at9 : v ≠ -1 → (9 + v = 9 ∨ 9 + v = 11) → ck_CI (ch_C g A R) (d + 3) mX6_at [.inr (.inr 67), .inl (u 67 8)] (ck_up u 67 5 (9 + v)) (fun v11 w10 => (¬ v11 = 61 → K none w10) ∧ (v11 = 61 → ck_i ((w10 67 5) + 1) ∧ (ck_i ((w10 67 8) + 1) ∧ (K none (ck_up (ck_up w10 67 5 ((w10 67 5) + 1)) 67 8 ((w10 67 8) + 1)))))) := by
    intro nv hv9
    have s2 := k9 (by omega) nv (by omega)
    have v2 : pV f (ck_up u 67 5 (9 + v)) s := pV_j v1
    have t2 := cp_Tp s2 ht
    have t21 := t2.1
    have n2 := s2.2.2.2.2.2.2
    unfold cp_N at n2
    have e5 : (ck_up u 67 5 (9 + v)) 67 5 = 9 + v := by simp [ck_up]
    have e82 : (ck_up u 67 5 (9 + v)) 67 8 = u 67 8 := by simp [ck_up]
    have e72 : (ck_up u 67 5 (9 + v)) 67 7 = u 67 7 := by simp [ck_up]
    have ab := cp_atb t2 (u 67 8)
    have eb := cp_at0 s2 (u 67 8)
    generalize (ck_up u 67 5 (9 + v)) = u2 at *
    rw [e8] at eb
    have s3 : u2 67 8 < u2 67 1 → cp_S w0 f b (ck_up (ck_up u2 67 5 (u2 67 5 + 1)) 67 8 (u2 67 8 + 1)) := fun _ => cp_up s2 (fun k hk => by simp [ck_up, hk]) (by simp [ck_up]) (by simp [ck_up]) (by simp [cp_N, ck_up]; omega)
    have v3 : pV f (ck_up (ck_up u2 67 5 (u2 67 5 + 1)) 67 8 (u2 67 8 + 1)) s := pV_j (pV_j v2)
    refine p_X6_at hC t2 ⟨_, rfl, fun _ => ⟨fun z => h _ s2 v2 (by rw [e72, e7]) ?_ ?_, fun z => ⟨by constructor <;> omega, by constructor <;> omega, h _ (s3 (by omega)) v3 (by simp [ck_up]; rw [e72, e7]) ?_ ?_⟩⟩⟩
    · rw [e8] at z
      rw [if_neg nv, if_neg (by omega), e5]
    · rw [e8] at z
      rw [if_neg (by omega), e82, e8]
    · rw [e8] at z
      rw [if_neg nv, if_pos (by omega)]
      simp [ck_up]
      omega
    · rw [e8] at z
      rw [if_pos (by omega)]
      simp [ck_up]
      omega
  refine ⟨fun z => ⟨by constructor <;> omega, fun y => at9 z (Or.inl y), fun y => ⟨fun y2 => h _ (k9 (by omega) z (by omega)) (pV_j v1) (by simp [ck_up]; exact e7) (by rw [if_neg z, if_neg (by omega)]; simp [ck_up]) (by rw [if_neg (by omega)]; simp [ck_up]; exact e8), fun y2 => at9 z (Or.inr y2)⟩⟩, fun z => h _ (cp_up s1 (fun k hk => by simp [ck_up, hk]) (by simp [ck_up]) (by simp [ck_up]) (by simp [cp_N, ck_up]; omega)) (pV_j v1) (by simp [ck_up]; exact e7) (by rw [if_pos z]; simp [ck_up]) (by rw [if_neg (by omega)]; simp [ck_up]; exact e8)⟩
theorem p2_X6_scanToken {g : ch_G} {A R : Nat} (hC : ck_Cx g A R) {d : Nat} {K : Option ck_V → ck_W → Prop} {w : ck_W} {f b : Int} {w0 s : ck_W} (ht : cs_Tp w0) (hs : cp_S w0 f b w) (hv : pV f w s) (h : ∀ w' v, cp_S w0 f b w' → pV f w' s → lx (tb (w0 67 1) (w0 68)) (w 67 8) (w' 67 5) v (w' 67 7) (w' 67 8) → (w' 67 5 = 2 ∨ w' 67 5 = 3 → w' 67 6 = v) → K none w') : ck_Ex (ch_C g A R) (d + 7) mX6_scanToken [.inr (.inr 67)] w K := by
  have n0 := hs.2.2.2.2.2.2
  unfold cp_N at n0
  have fin : ∀ u : ck_W, cp_S w0 f b u → pV f u s → lx_to lx_bl (tb (w0 67 1) (w0 68)) (w 67 8) (u 67 8) → ck_CI (ch_C g A R) (d + 6) mX6_at [.inr (.inr 67), .inl (u 67 8)] (ck_up u 67 7 (u 67 8)) (fun v4 w3 => (¬ v4 = (-1) → ((97 ≤ v4 ∧ v4 ≤ 122) ∨ (65 ≤ v4 ∧ v4 ≤ 90) → ck_CN (ch_C g A R) (d + 6) mX6_scanLetters [.inr (.inr 67)] w3 (fun w7 => K none w7)) ∧ (¬ ((97 ≤ v4 ∧ v4 ≤ 122) ∨ (65 ≤ v4 ∧ v4 ≤ 90)) → (48 ≤ v4 ∧ v4 ≤ 57 → ck_CN (ch_C g A R) (d + 6) mX6_scanNumber [.inr (.inr 67)] w3 (fun w9 => K none w9)) ∧ (¬ (48 ≤ v4 ∧ v4 ≤ 57) → ck_CN (ch_C g A R) (d + 6) mX6_scanSign [.inr (.inr 67), .inl v4] w3 (fun w11 => K none w11)))) ∧ (v4 = (-1) → K none (ck_up w3 67 5 0))) := by
    intro u g gv gl
    have t1 := (cp_Tp g ht).1
    have n := g.2.2.2.2.2.2
    unfold cp_N at n
    have s1 : cp_S w0 f b (ck_up u 67 7 (u 67 8)) := cp_up g (fun k hk => by simp [ck_up, hk]) (by simp [ck_up]) (by simp [ck_up]) (by simp [cp_N, ck_up]; omega)
    have v1 : pV f (ck_up u 67 7 (u 67 8)) s := pV_j gv
    have t := cp_Tp s1 ht
    have e8 : (ck_up u 67 7 (u 67 8)) 67 8 = u 67 8 := by simp [ck_up]
    have e7 : (ck_up u 67 7 (u 67 8)) 67 7 = u 67 8 := by simp [ck_up]
    have n1 := s1.2.2.2.2.2.2
    unfold cp_N at n1
    generalize (ck_up u 67 7 (u 67 8)) = u1 at *
    rw [← e8]
    rw [← e8] at gl
    have ab := cp_atb t (u1 67 8)
    have eb := cp_at0 s1 (u1 67 8)
    have p7 : u1 67 7 = u1 67 8 := by omega
    have hbl : ¬ cp_at u1 (u1 67 8) = 32 := fun z => gl.2.2 (by rw [← eb]; exact Or.inl z)
    refine p_X6_at hC t ⟨_, rfl, fun _ => ⟨fun z => ⟨fun y => p2_X6_scanLetters hC ht s1 v1 p7 (fun w' i k kv k7 kl kr kk => ⟨rfl, ?_⟩), fun y => ⟨fun y2 => p2_X6_scanNumber hC ht s1 v1 p7 (fun w' k kv k5 k7 kl k6 => ⟨rfl, ?_⟩), fun y2 => p2_X6_scanSign hC ht s1 v1 (by omega) hbl (by omega) (fun w' k kv k7 k5 k8 => ⟨rfl, ?_⟩)⟩⟩, fun z => ?_⟩⟩
    · rw [p7] at k7 kl kr
      rcases kk with ⟨a1, a2⟩ | ⟨a1, a2, a3⟩ | ⟨a1, a2, a3, a4⟩
      · refine h w' 0 k kv ⟨by rw [k7]; exact gl, Or.inr (Or.inl ?_)⟩ (fun q => by omega)
        rw [k7, ← eb]
        exact ⟨y, kl, i, kr, Or.inl ⟨a1, a2, rfl⟩⟩
      · refine h w' 0 k kv ⟨by rw [k7]; exact gl, Or.inr (Or.inl ?_)⟩ (fun q => by omega)
        rw [k7, ← eb]
        exact ⟨y, kl, i, kr, Or.inr (Or.inl ⟨a1, a2, a3, rfl⟩)⟩
      · refine h w' (i - 5) k kv ⟨by rw [k7]; exact gl, Or.inr (Or.inl ?_)⟩ (fun q => a4)
        rw [k7, ← eb]
        exact ⟨y, kl, i, kr, Or.inr (Or.inr ⟨a1, a2, a3, rfl⟩)⟩
    · rw [p7] at k7 kl k6
      refine h w' _ k kv ⟨by rw [k7]; exact gl, Or.inr (Or.inr (Or.inl ?_))⟩ (fun q => k6)
      rw [k7, ← eb]
      exact ⟨y2, kl, k5, rfl⟩
    · rw [p7] at k7
      have sgk : ∀ c e : Int, ¬ (sg_k c e = 2 ∨ sg_k c e = 3) := fun c e => by
        unfold sg_k
        repeat' split
        all_goals omega
      refine h w' 0 k kv ⟨by rw [k7]; exact gl, Or.inr (Or.inr (Or.inr ?_))⟩ (fun q => absurd q (by rw [k5]; exact sgk _ _))
      rw [k7, ← eb]
      exact ⟨by omega, y, y2, k5, rfl, k8⟩
    · refine h _ 0 (cp_up s1 (fun k hk => by simp [ck_up, hk]) (by simp [ck_up]) (by simp [ck_up]) (by simp [cp_N, ck_up]; omega)) (pV_j v1) ⟨by simp [ck_up]; rw [p7]; exact gl, Or.inl ?_⟩ (fun q => by simp [ck_up] at q)
      simp [ck_up]
      rw [p7, ← eb]
      exact ⟨z, rfl⟩
  have lp : ∀ (m : Nat) (a1 : Int) (u : ck_W), 300 - a1 = m → 0 ≤ a1 → cp_S w0 f b u → pV f u s → u 67 8 = w 67 8 + a1 → (∀ k, w 67 8 ≤ k → k < w 67 8 + a1 → lx_bl (tb (w0 67 1) (w0 68) k)) → ck_At (ch_C g A R) (d + 7) mX6_scanToken K 2 [some (.inr (.inr 67)), some (.inl a1)] [] u := by
    intro m
    induction m with
    | zero =>
      intro a1 u g1 g0 g2 gv g8 gd
      have t := cp_Tp g2 ht
      have t1 := t.1
      refine r_X6_scanToken_2 hC ⟨fun _ => fin u g2 gv ⟨by omega, fun k k0 k1 => gd k k0 (by omega), ?_⟩, fun q => absurd (by omega) q⟩
      rw [← cp_at0 g2]
      have ab := cp_atb t (u 67 8)
      unfold lx_bl
      omega
    | succ m ih =>
      intro a1 u g1 g0 g2 gv g8 gd
      have t := cp_Tp g2 ht
      have t1 := t.1
      have n2 := g2.2.2.2.2.2.2
      unfold cp_N at n2
      have ab := cp_atb t (u 67 8)
      have eb := cp_at0 g2 (u 67 8)
      refine r_X6_scanToken_2 hC ⟨fun q => absurd q (by omega), fun _ => p_X6_at hC t ⟨_, rfl, fun _ => ⟨fun z => ⟨by constructor <;> omega, by constructor <;> omega, ih (a1 + 1) _ (by omega) (by omega) (cp_up g2 (fun k hk => by simp [ck_up, hk]) (by simp [ck_up]) (by simp [ck_up]) (by simp [cp_N, ck_up]; omega)) (pV_j gv) (by simp [ck_up]; omega) (fun k k0 k1 => ?_)⟩, fun z => fin u g2 gv ⟨by omega, fun k k0 k1 => gd k k0 (by omega), by rw [← eb]; exact z⟩⟩⟩⟩
      by_cases x : k = u 67 8
      · rw [x, ← eb]; exact z
      · exact gd k k0 (by omega)
  exact e_X6_scanToken hC (lp 300 0 w (by omega) (by omega) hs (hv) (by omega) (fun k k0 k1 => by omega))
