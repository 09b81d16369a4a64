/-! ===== the reference: what may be printed, exact ===== -/
theorem rs_wl_p {f b : Int → Int} {o : Int} : ∀ (n : Nat) (i x : Int), 0 < rs_wl f b o n i x → ∀ j, i ≤ j → j < i + n → 0 ≤ b j
  | 0, i, x, _, j, j0, j1 => by omega
  | n + 1, i, x, h, j, j0, j1 => by
    rw [rs_wl] at h
    by_cases q : x ≤ 0
    · rw [if_pos q] at h; omega
    rw [if_neg q] at h
    by_cases q2 : 0 ≤ b i
    · rw [if_pos q2] at h
      by_cases e : j = i
      · rw [e]; exact q2
      · exact rs_wl_p n (i + 1) _ h j (by omega) (by omega)
    · rw [if_neg q2, rs_wl_n _ _ _ (by decide)] at h
      exact absurd h (by decide)
theorem rs_bb_c {A R : Nat} {w u : ck_W} (e76 : u 76 = w 76) (e77 : u 77 = w 77) (e83 : u 83 = w 83) (e85 : u 85 = w 85) {cd : Int → Int} {n : Nat} {z p : Int} {b : Int → Int} (h : rs_bb A R u cd n z p b) : rs_bb A R w cd n z p b := by
  intro i i0 i1
  have x := h i i0 i1
  rw [rm_bx_c e76 e77 e83, e77, e85] at x
  exact x
/-- a reader learnt from a bit in the boxes -/
def rs_tg (f : Int → Int) (r z p n : Int) : Prop := ∃ k, (0 ≤ k ∧ k < f 3) ∧ (z ≤ f (1010 + 4 * k) ∧ f (1010 + 4 * k) ≤ z + 2) ∧ (p ≤ f (1010 + 4 * k + 1) ∧ f (1010 + 4 * k + 1) ≤ p + 3 * n - 1) ∧ ck_and (ck_shr (f (1260 + r)) (f (1010 + 4 * k + 3))) 1 = 1
theorem S2_X12_isTaught {g : ch_G} {A R : Nat} (hC : ck_Cx g A R) {d : Nat} {K : Option ck_V → ck_W → Prop} {w : ck_W} {a1 a2 a3 a4 : Int} (hI : rm_I A R w) (h1 : 0 ≤ a1 ∧ a1 < 4) (h2 : 0 ≤ a2 ∧ a2 ≤ 3) (h3 : 0 ≤ a3 ∧ a3 ≤ 23) (h4 : 1 ≤ a4 ∧ a4 ≤ 3) (k1 : rs_tg (w 77) a1 a2 a3 a4 → K (some (.inl 1)) w) (k0 : ¬ rs_tg (w 77) a1 a2 a3 a4 → K (some (.inl 0)) w) : ck_Ex (ch_C g A R) (d + 1) mX12_isTaught [.inr (.inr 76), .inl a1, .inl a2, .inl a3, .inl a4] w K := by
  have f0 := rm_c0 hI.2.2.2.1
  have l : ∀ (m : Nat) (a5 : Int), w 77 3 - a5 = m → 0 ≤ a5 → (∀ k, (0 ≤ k ∧ k < a5) → ¬ ((a2 ≤ w 77 (1010 + 4 * k) ∧ w 77 (1010 + 4 * k) ≤ a2 + 2) ∧ (a3 ≤ w 77 (1010 + 4 * k + 1) ∧ w 77 (1010 + 4 * k + 1) ≤ a3 + 3 * a4 - 1) ∧ ck_and (ck_shr (w 77 (1260 + a1)) (w 77 (1010 + 4 * k + 3))) 1 = 1)) → ck_At (ch_C g A R) (d + 1) mX12_isTaught K 3 [some (.inr (.inr 76)), some (.inl a1), some (.inl a2), some (.inl a3), some (.inl a4), some (.inl a5), none] [] w := by
    intro m
    induction m with
    | zero =>
      intro a5 q1 q2 q3
      refine r_X12_isTaught_3 hC ⟨fun _ => k0 (fun x => ?_), fun z => absurd (by omega) z⟩
      obtain ⟨k, b1, b2⟩ := x
      exact q3 k ⟨b1.1, by omega⟩ b2
    | succ m ih =>
      intro a5 q1 q2 q3
      have nx : ¬ ((a2 ≤ w 77 (1010 + 4 * a5) ∧ w 77 (1010 + 4 * a5) ≤ a2 + 2) ∧ (a3 ≤ w 77 (1010 + 4 * a5 + 1) ∧ w 77 (1010 + 4 * a5 + 1) ≤ a3 + 3 * a4 - 1) ∧ ck_and (ck_shr (w 77 (1260 + a1)) (w 77 (1010 + 4 * a5 + 3))) 1 = 1) → ck_At (ch_C g A R) (d + 1) mX12_isTaught K 3 [some (.inr (.inr 76)), some (.inl a1), some (.inl a2), some (.inl a3), some (.inl a4), some (.inl (a5 + 1)), none] [] w := fun no => ih (a5 + 1) (by omega) (by omega) (fun k hk => by
        by_cases e : k = a5
        · rw [e]; exact no
        · exact q3 k (by omega))
      exact r_X12_isTaught_3 hC ⟨fun z => absurd z (by omega), fun _ => ⟨by constructor <;> omega, by omega, by constructor <;> omega, fun y1 => ⟨by omega, by constructor <;> omega, fun y2 => ⟨by omega, by omega, fun y3 => ⟨by constructor <;> omega, nx (fun x => y3 x.2.2)⟩, fun y3 => k1 ⟨a5, ⟨q2, by omega⟩, y1, y2, y3⟩⟩, fun y2 => ⟨by constructor <;> omega, nx (fun x => y2 x.2.1)⟩⟩, fun y1 => ⟨by constructor <;> omega, nx (fun x => y1 x.1)⟩⟩⟩
  exact e_X12_isTaught hC (l (w 77 3).toNat 0 (by omega) (by omega) (fun k hk => by omega))
/-- the word counts for a reader: b what the boxes show, c the chances -/
def rs_cn (f b c : Int → Int) (r z p o P : Int) : Prop := 0 ≤ o ∧ P ≤ rs_wo (f 5) c o ∧ ¬ rs_tg f r z p (rm_ln f o) ∧ ∀ k, 0 ≤ k → k < rm_ln f o → (rs_bl f (b k) (f 4).toNat 0 (-1, 0)).1 = f (1300 + 4 * o + k)
theorem S2_X12_counts {g : ch_G} {A R : Nat} (hC : ck_Cx g A R) {d : Nat} {K : Option ck_V → ck_W → Prop} {w : ck_W} {a1 a2 a3 a4 a5 : Int} (hI : rm_I A R w) (h1 : 0 ≤ a1 ∧ a1 < 4) (h4 : -1 ≤ a4 ∧ a4 < w 77 5) (hc : rm_wc (w 77 5) w) (hw : 0 ≤ a4 → (0 ≤ a2 ∧ a2 ≤ 3) ∧ (0 ≤ a3 ∧ a3 ≤ 23) ∧ ∀ k, 0 ≤ k → k < rm_ln (w 77) a4 → 0 ≤ w 94 k ∧ w 94 k < 512) (k1 : rs_cn (w 77) (w 94) (w 95) a1 a2 a3 a4 a5 → K (some (.inl 1)) w) (k0 : ¬ rs_cn (w 77) (w 94) (w 95) a1 a2 a3 a4 a5 → K (some (.inl 0)) w) : ck_Ex (ch_C g A R) (d + 3) mX12_counts [.inr (.inr 76), .inl a1, .inl a2, .inl a3, .inl a4, .inl a5] w K := by
  have f0 := rm_c0 hI.2.2.2.1
  refine e_X12_counts hC ⟨fun z => k0 (fun x => by have := x.1; omega), fun z => ?_⟩
  obtain ⟨b2, b3, b4⟩ := hw (by omega)
  have lb := rm_lnb (w 77) a4
  refine S2_X12_wordOdds hC hI (by omega) hc (fun _ => ⟨_, rfl, fun _ => ⟨fun y => k0 (fun x => by have := x.2.1; omega), fun y => S_X12_lengthOf hC (by omega) ⟨_, rfl, fun _ => S2_X12_isTaught hC hI h1 b2 b3 lb (fun t => ⟨_, rfl, fun _ => ⟨fun e => absurd e (by decide), fun _ => k0 (fun x => x.2.2.1 t)⟩⟩) (fun t => ⟨_, rfl, fun _ => ⟨fun _ => ?_, fun e => absurd rfl e⟩⟩)⟩⟩⟩)
  have l : ∀ (m : Nat) (a6 : Int), rm_ln (w 77) a4 - a6 = m → 0 ≤ a6 → (∀ k, 0 ≤ k → k < a6 → (rs_bl (w 77) (w 94 k) (w 77 4).toNat 0 (-1, 0)).1 = w 77 (1300 + 4 * a4 + k)) → ck_At (ch_C g A R) (d + 3) mX12_counts K 37 [some (.inr (.inr 76)), none, none, none, some (.inl a4), none, some (.inl a6)] [] w := by
    intro m
    induction m with
    | zero =>
      intro a6 q1 q2 q3
      exact r_X12_counts_37 hC (S_X12_lengthOf hC (by omega) ⟨_, rfl, fun _ => ⟨fun _ => k1 ⟨by omega, by omega, t, fun k k0 k1 => q3 k k0 (by omega)⟩, fun y => absurd (by omega) y⟩⟩)
    | succ m ih =>
      intro a6 q1 q2 q3
      refine r_X12_counts_37 hC (S_X12_lengthOf hC (by omega) ⟨_, rfl, fun _ => ⟨fun y => absurd y (by omega), fun _ => ⟨by omega, S2_X12_letterOf hC hI (b4 a6 q2 (by omega)) (fun _ _ => ⟨_, rfl, fun _ => ⟨by omega, fun y => ⟨by constructor <;> omega, ih _ (by omega) (by omega) (fun k k0 k1 => ?_)⟩, fun y => k0 (fun x => y (x.2.2.2 a6 q2 (by omega)))⟩⟩)⟩⟩⟩)
      by_cases e : k = a6
      · rw [e]; exact y
      · exact q3 k k0 (by omega)
  exact l (rm_ln (w 77) a4).toNat 0 (by omega) (by omega) (fun k k0 k1 => by omega)
theorem cb_ct_u {vs : Int → Int} {x j : Int} (k : Nat) : cb_ct (rm_u vs (k : Int) x) j (k + 1) = cb_ct vs j k + if x = j then 1 else 0 := by
  have e : ∀ m : Nat, m ≤ k → cb_ct (rm_u vs (k : Int) x) j m = cb_ct vs j m := by
    intro m
    induction m with
    | zero => intro _; rfl
    | succ m ihm => intro hm; rw [cb_ct, cb_ct, ihm (by omega), rm_u_ne (by omega)]
  rw [cb_ct, e k (by omega), rm_u_eq]
/-- what a reader counts for -/
def rs_vo (A R : Nat) (w1 w : ck_W) (e : Int → Int) (cd : Int → Int → Int) (a1 a2 a3 a4 r v : Int) : Prop := (ck_and (ck_shr a1 r) 1 = 0 ∧ v = -1) ∨ (¬ ck_and (ck_shr a1 r) 1 = 0 ∧ r < w 77 0 ∧ ∃ b c : Int → Int, rs_bb A R w1 (cd r) (w 79 (800 * r) + e r).toNat a2 a3 b ∧ (∀ k, 0 ≤ k → k < w 77 5 → c k = rs_wx (w 77) b k) ∧ ((rs_cn (w 77) b c r a2 a3 (cb_bw c (w 77 5).toNat) a4 ∧ v = cb_bw c (w 77 5).toNat) ∨ (¬ rs_cn (w 77) b c r a2 a3 (cb_bw c (w 77 5).toNat) a4 ∧ v = -1)))
theorem M2_printed {g : ch_G} {A R : Nat} (hC : ck_Cx g A R) {d : Nat} {K : Option ck_V → ck_W → Prop} {w : ck_W} {a1 a2 a3 a4 a5 : Int} {e : Int → Int} {cd : Int → Int → Int} {cp : Int → Int → Int} (hI : rm_I A R w) (hc : rm_cps w cp) (hX : ∀ r, 0 ≤ r → r < w 77 0 → cX (800 * r) (w 79 (800 * r)) (e r) (cd r) (w 79))
    (h1 : ((0 ≤ a1 ∧ a1 ≤ ck_shl 1 (w 77 0) - 1) ∧ (0 ≤ a4 ∧ a4 ≤ 1000) ∧ (1 ≤ a5 ∧ a5 ≤ 4)) → ∀ w1 w' vs, rm_wf w w1 → (∀ z, 0 ≤ z → z ≤ 5 → rm_w2 A R w z (w 77 (10 + z) * A) (cp z) w1) → rm_q w w' → (∀ r, 0 ≤ r → r < 4 → rs_vo A R w1 w e cd a1 a2 a3 a4 r (vs r)) → K (some (.inl (cb_mv (fun k => cb_ct vs k 4) a5 12))) w')
    (h0 : ¬ ((0 ≤ a1 ∧ a1 ≤ ck_shl 1 (w 77 0) - 1) ∧ (0 ≤ a4 ∧ a4 ≤ 1000) ∧ (1 ≤ a5 ∧ a5 ≤ 4)) → K (some (.inl (-1))) w) : ck_Ex (ch_C g A R) (d + 7) mX12_printed [.inr (.inr 76), .inl a1, .inl a2, .inl a3, .inl a4, .inl a5] w K := by
  refine ck_exi (fun ha => ?_)
  have f0 := rm_c0 hI.2.2.2.1
  have i3 : ck_i a3 := ha.2.2.2.1
  have sh : ck_shl 1 (w 77 0) = 2 ^ (w 77 0).toNat ∧ 1 ≤ ck_shl 1 (w 77 0) ∧ ck_shl 1 (w 77 0) ≤ 16 := by
    have e := kb_shl1 (k := w 77 0) (by omega) (by omega)
    rw [e]
    refine ⟨rfl, ?_⟩
    rcases (by omega : w 77 0 = 0 ∨ w 77 0 = 1 ∨ w 77 0 = 2 ∨ w 77 0 = 3 ∨ w 77 0 = 4) with e | e | e | e | e <;> rw [e] <;> decide
  refine e_X12_printed hC ⟨by constructor <;> omega, fun q1 => ⟨fun q2 => ⟨fun q3 => ?_, fun q3 => h0 (fun x => q3 x.2.2)⟩, fun q2 => h0 (fun x => q2 x.2.1)⟩, fun q1 => h0 (fun x => q1 x.1)⟩
  refine S2_X12_windAll hC hI hc (fun w1 i1 i2 => ⟨rfl, ?_⟩)
  have s1 : rm_st A R w w1 := ⟨rm_q_wf i1, rm_I_q hI (rm_q_wf i1), rm_wa_of hC hI i1 (fun z a b => (i2 z a b).1)⟩
  have l3 : ∀ (m k : Nat) (vs : Int → Int) (u : ck_W), 12 - k = m → k ≤ 12 → rm_q w u → (∀ r, 0 ≤ r → r < 4 → rs_vo A R w1 w e cd a1 a2 a3 a4 r (vs r)) → (∀ j, 0 ≤ j → j < 12 → u 96 j = cb_ct vs j 4) → ck_At (ch_C g A R) (d + 7) mX12_printed K 139 [some (.inr (.inr 76)), none, none, none, none, some (.inl a5), some (.inl (cb_mv (u 96) a5 k)), some (.inl (k : Int))] [] u := by
    intro m
    induction m with
    | zero =>
      intro k vs u b1 b2 b3 b4 b5
      obtain rfl : k = 12 := by omega
      refine r_X12_printed_139 hC ⟨fun _ => ?_, fun z => absurd (by decide) z⟩
      rw [cb_mv_fr (g := fun k => cb_ct vs k 4) 12 (fun j a b => b5 j a (by omega))]
      exact h1 ⟨q1, q2, q3⟩ w1 u vs i1 (fun z a b => (i2 z a b).2) b3 b4
    | succ m ih =>
      intro k vs u b1 b2 b3 b4 b5
      have i := ih (k + 1) vs u (by omega) (by omega) b3 b4 b5
      rw [show ((k + 1 : Nat) : Int) = (k : Int) + 1 by omega, cb_mv] at i
      have mb := cb_mvb (u 96) a5 k
      refine r_X12_printed_139 hC ⟨fun z => absurd z (by omega), fun _ => ⟨by omega, fun z => ⟨by constructor <;> omega, by rw [if_pos z] at i; exact i⟩, fun z => ?_⟩⟩
      rw [if_neg z] at i
      refine ⟨fun z2 => ⟨by constructor <;> omega, by rw [if_pos (by omega)] at i; exact i⟩, fun z2 => ?_⟩
      rw [if_neg (by omega)] at i
      exact ⟨by omega, fun z3 => ⟨by constructor <;> omega, by rw [if_pos z3] at i; exact i⟩, fun z3 => ⟨by constructor <;> omega, by rw [if_neg z3] at i; exact i⟩⟩
  have up96 : ∀ (u : ck_W) (i v : Int), rm_st A R w u → rm_st A R w (ck_up u 96 i v) := fun u i v s => ⟨rm_q_up s.1 (by decide), rm_I_c s.2.1 rfl rfl rfl rfl, rm_wa_c s.2.2 rfl rfl rfl rfl⟩
  have l2 : ∀ (m k : Nat) (vs : Int → Int) (u : ck_W), 4 - k = m → k ≤ 4 → rm_st A R w u → (u 76 = w1 76 ∧ u 77 = w1 77 ∧ u 83 = w1 83 ∧ u 85 = w1 85) → (∀ r, 0 ≤ r → r < (k : Int) → rs_vo A R w1 w e cd a1 a2 a3 a4 r (vs r)) → (∀ j, 0 ≤ j → j < 12 → u 96 j = cb_ct vs j k) → ck_At (ch_C g A R) (d + 7) mX12_printed K 73 [some (.inr (.inr 76)), some (.inl a1), some (.inl a2), some (.inl a3), some (.inl a4), some (.inl a5), some (.inl (k : Int)), none] [] u := by
    intro m
    induction m with
    | zero =>
      intro k vs u b1 b2 b3 c b4 b5
      obtain rfl : k = 4 := by omega
      refine r_X12_printed_73 hC ⟨fun _ => ?_, fun z => absurd (by decide) z⟩
      exact l3 12 0 vs u (by omega) (by omega) b3.1 (fun r r0 r1 => b4 r r0 (by omega)) b5
    | succ m ih =>
      intro k vs u b1 b2 b3 c b4 b5
      have e77 := b3.1.2.1
      have e79 := b3.1.2.2.2.1
      have nx : ∀ (v : Int) (u' : ck_W), rm_st A R w u' → (u' 76 = u 76 ∧ u' 77 = u 77 ∧ u' 83 = u 83 ∧ u' 85 = u 85) → rs_vo A R w1 w e cd a1 a2 a3 a4 (k : Int) v → (∀ j, 0 ≤ j → j < 12 → u' 96 j = u 96 j + if v = j then 1 else 0) → ck_At (ch_C g A R) (d + 7) mX12_printed K 73 [some (.inr (.inr 76)), some (.inl a1), some (.inl a2), some (.inl a3), some (.inl a4), some (.inl a5), some (.inl ((k : Int) + 1)), none] [] u' := by
        intro v u' g1 g2 g3 g4
        rw [show (k : Int) + 1 = ((k + 1 : Nat) : Int) by omega]
        refine ih (k + 1) (rm_u vs (k : Int) v) u' (by omega) (by omega) g1 ⟨g2.1.trans c.1, g2.2.1.trans c.2.1, g2.2.2.1.trans c.2.2.1, g2.2.2.2.trans c.2.2.2⟩ (fun r r0 r1 => ?_) (fun j j0 j1 => ?_)
        · by_cases x : r = k
          · rw [x, rm_u_eq]; exact g3
          · rw [rm_u_ne x]; exact b4 r r0 (by omega)
        · rw [cb_ct_u, g4 j j0 j1, b5 j j0 j1]
      have ctb := fun j => cb_ctb vs j k
      refine r_X12_printed_73 hC ⟨fun z => absurd z (by omega), fun _ => ⟨fun z => ?_, fun z => ⟨by constructor <;> omega, nx (-1) u b3 ⟨rfl, rfl, rfl, rfl⟩ (Or.inl ⟨z, rfl⟩) (fun j j0 j1 => by rw [if_neg (by omega)]; omega)⟩⟩⟩
      have rd : (k : Int) < w 77 0 := by
        refine Classical.byContradiction (fun y => z ?_)
        rw [kb_bit q1.1 (by omega) (by omega) (by omega)]
        have p : a1 / 2 ^ (k : Int).toNat = 0 := by
          refine Int.ediv_eq_zero_of_lt q1.1 ?_
          have : (2 : Nat) ^ (w 77 0).toNat ≤ 2 ^ (k : Int).toNat := Nat.pow_le_pow_right (by decide) (by omega)
          have c1 : ((2 ^ (w 77 0).toNat : Nat) : Int) = (2 : Int) ^ (w 77 0).toNat := by simp
          have c2 : ((2 ^ (k : Int).toNat : Nat) : Int) = (2 : Int) ^ (k : Int).toNat := by simp
          rw [← c2]
          have s := sh.1
          rw [← c1] at s
          omega
        rw [p]; rfl
      refine S2_X12_join (e := e k) (cd := cd k) hC ⟨rm_q_rf, b3.2⟩ (by rw [e77]; omega) i3 (by rw [e79]; exact hX k (by omega) rd) (fun u' c1 c2 c3 c4 c5 => ⟨_, rfl, fun _ => ?_⟩)
      have q' := rm_q_tr b3.1 c1.1
      have e77' := c1.1.2.1
      have u96 : u' 96 = u 96 := c2 96 (by decide) (by decide) (by decide) (by decide) (by decide)
      have s' : rm_st A R w u' := ⟨q', c1.2⟩
      have c' : u' 76 = u 76 ∧ u' 77 = u 77 ∧ u' 83 = u 83 ∧ u' 85 = u 85 := ⟨c1.1.1, e77', c2 83 (by decide) (by decide) (by decide) (by decide) (by decide), c2 85 (by decide) (by decide) (by decide) (by decide) (by decide)⟩
      have c3' := rs_bb_c c.1 c.2.1 c.2.2.1 c.2.2.2 c3
      have bwb := cb_bwb (u' 95) (u 77 5).toNat
      have hw : 0 ≤ cb_bw (u' 95) (u 77 5).toNat → (0 ≤ a2 ∧ a2 ≤ 3) ∧ (0 ≤ a3 ∧ a3 ≤ 23) ∧ ∀ j, 0 ≤ j → j < rm_ln (u' 77) (cb_bw (u' 95) (u 77 5).toNat) → 0 ≤ u' 94 j ∧ u' 94 j < 512 := fun y => by
        have b := bwb.resolve_left (by omega)
        have lb := rm_lnb (u 77) (cb_bw (u' 95) (u 77 5).toNat)
        have pos := b.2.2
        rw [c4 _ y (by omega)] at pos
        unfold rs_wx at pos
        have al := rs_wl_p _ _ _ pos
        rw [e77']
        have bx : rm_bx u a2 (a3 + 3 * 0) := by
          rcases c3 0 (by omega) (by omega) with x | x
          · exact x.1
          · have := al 0 (by omega) (by omega); omega
        rw [show a3 + 3 * 0 = a3 by omega] at bx
        have bb := rm_bx_b hC b3.2.1 bx
        refine ⟨bx.1, by omega, fun j j0 j1 => ?_⟩
        have aj := al j (by omega) (by omega)
        rcases c3 j j0 (by omega) with x | x
        · exact x.2.1
        · omega
      rw [e77] at c4 c5 bwb hw ⊢
      have e77w : u' 77 = w 77 := e77'.trans e77
      rw [e79] at c3'
      refine S2_X12_counts hC c1.2.1 (by omega) (by rw [e77w]; omega) (by rw [e77w]; exact c5) hw (fun y => ⟨_, rfl, fun _ => ⟨fun y2 => absurd y2 (by decide), fun _ => ?_⟩⟩) (fun y => ⟨_, rfl, fun _ => ⟨fun _ => ⟨by constructor <;> omega, nx (-1) u' s' c' (Or.inr ⟨z, rd, u' 94, u' 95, c3', c4, Or.inr ⟨by rw [e77w] at y; exact y, rfl⟩⟩) (fun j j0 j1 => by rw [u96, if_neg (by omega)]; omega)⟩, fun y2 => absurd rfl y2⟩⟩)
      have y0 := y.1
      rw [e77w] at y
      have vb := b5 (cb_bw (u' 95) (w 77 5).toNat) y0 (by omega)
      have vc := ctb (cb_bw (u' 95) (w 77 5).toNat)
      rw [u96]
      refine ⟨by omega, by constructor <;> omega, by constructor <;> omega, nx (cb_bw (u' 95) (w 77 5).toNat) _ (up96 _ _ _ s') c' (Or.inr ⟨z, rd, u' 94, u' 95, c3', c4, Or.inl ⟨y, rfl⟩⟩) (fun j j0 j1 => ?_)⟩
      by_cases x : j = cb_bw (u' 95) (w 77 5).toNat
      · rw [x, ck_up_eq, if_pos rfl]
      · rw [ck_up_nj x, u96, if_neg (fun h => x h.symm)]; omega
  have l1 : ∀ (m : Nat) (a6 : Int) (u : ck_W), 12 - a6 = m → 0 ≤ a6 → rm_st A R w u → (u 76 = w1 76 ∧ u 77 = w1 77 ∧ u 83 = w1 83 ∧ u 85 = w1 85) → (∀ j, 0 ≤ j → j < a6 → u 96 j = 0) → ck_At (ch_C g A R) (d + 7) mX12_printed K 49 [some (.inr (.inr 76)), some (.inl a1), some (.inl a2), some (.inl a3), some (.inl a4), some (.inl a5), some (.inl a6), none] [] u := by
    intro m
    induction m with
    | zero =>
      intro a6 u b1 b2 b3 c b4
      refine r_X12_printed_49 hC ⟨fun _ => ?_, fun z => absurd (by omega) z⟩
      exact l2 4 0 (fun _ => -1) u (by omega) (by omega) b3 c (fun r r0 r1 => by omega) (fun j j0 j1 => by rw [b4 j j0 (by omega)]; rfl)
    | succ m ih =>
      intro a6 u b1 b2 b3 c b4
      refine r_X12_printed_49 hC ⟨fun z => absurd z (by omega), fun _ => ⟨by omega, by constructor <;> omega, ih _ _ (by omega) (by omega) (up96 _ _ _ b3) c (fun j j0 j1 => ?_)⟩⟩
      by_cases e : j = a6
      · subst e; rw [ck_up_eq]
      · rw [ck_up_nj e]; exact b4 j j0 (by omega)
  exact l1 12 0 w1 (by omega) (by omega) s1 ⟨rfl, rfl, rfl, rfl⟩ (fun j j0 j1 => by omega)
