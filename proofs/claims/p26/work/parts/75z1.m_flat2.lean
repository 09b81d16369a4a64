/-! ===== the reference: flat, exact ===== -/
theorem rm_w2_c {A R : Nat} {w u w' : ck_W} {z n : Int} {cp : Int → Int} (e76 : u 76 = w 76) (e77 : u 77 = w 77) (h : rm_w2 A R u z n cp w') : rm_w2 A R w z n cp w' := by
  unfold rm_w2 at h ⊢
  rw [e76, e77] at h
  exact h
theorem rm_w2_o {A R : Nat} {w w' w2 : ck_W} {z n : Int} {cp : Int → Int} (e83 : w2 83 z = w' 83 z) (e84 : w2 84 z = w' 84 z) (e85 : ∀ p, 0 ≤ p → p < n → w2 85 (24 * z + p) = w' 85 (24 * z + p)) (h : rm_w2 A R w z n cp w') : rm_w2 A R w z n cp w2 := by
  unfold rm_w2 at h ⊢
  obtain ⟨v, f1, f2, f3, f4, f5, f6, f7, f8⟩ := h
  refine ⟨v, f1, f2, f3, f4, f5, by rw [e83]; exact f6, by rw [e84]; exact f7, fun y => ?_⟩
  rw [e83] at y ⊢
  obtain ⟨r0, rad, code, o, gw, pa⟩ := f8 y
  exact ⟨r0, rad, code, o, gw, fun p p0 p1 => by rw [e85 p p0 p1]; exact pa p p0 p1⟩
/-- what the pins of each slice are -/
def rm_cps (w : ck_W) (cp : Int → Int → Int) : Prop := (∀ z k, 0 ≤ k → k < w 77 1 → w 77 (900 + 3 * k) = z → cp z (w 77 (900 + 3 * k + 1)) = w 77 (900 + 3 * k + 2)) ∧ ∀ z p, 0 ≤ z ∧ z ≤ 5 → 0 ≤ p → p < 24 → (∀ k, 0 ≤ k → k < w 77 1 → ¬ (w 77 (900 + 3 * k) = z ∧ w 77 (900 + 3 * k + 1) = p)) → cp z p = -1
theorem S2_X12_windAll {g : ch_G} {A R : Nat} (hC : ck_Cx g A R) {d : Nat} {K : Option ck_V → ck_W → Prop} {w : ck_W} {cp : Int → Int → Int} (hI : rm_I A R w) (hc : rm_cps w cp) (h : ∀ w', rm_wf w w' → (∀ z, 0 ≤ z → z ≤ 5 → rm_wd R (w 77 (10 + z) * A) z w' ∧ rm_w2 A R w z (w 77 (10 + z) * A) (cp z) w') → K none w') : ck_Ex (ch_C g A R) (d + 6) mX12_windAll [.inr (.inr 76)] w K := by
  have l : ∀ (m : Nat) (a1 : Int) (u : ck_W), 6 - a1 = m → 0 ≤ a1 → rm_wf w u → (∀ z, 0 ≤ z → z < a1 → rm_wd R (w 77 (10 + z) * A) z u ∧ rm_w2 A R w z (w 77 (10 + z) * A) (cp z) u) → ck_At (ch_C g A R) (d + 6) mX12_windAll K 2 [some (.inr (.inr 76)), some (.inl a1)] [] u := by
    intro m
    induction m with
    | zero =>
      intro a1 u q1 q2 q3 q4
      exact r_X12_windAll_2 hC ⟨fun _ => h u q3 (fun z a b => q4 z a (by omega)), fun z => absurd (by omega) z⟩
    | succ m ih =>
      intro a1 u q1 q2 q3 q4
      have qq := rm_q_wf q3
      refine r_X12_windAll_2 hC ⟨fun z => absurd z (by omega), fun _ => S2_X12_wind hC (cp := cp a1) (rm_I_q hI qq) (by omega) (by rw [qq.2.1]; exact hc.1 a1) (by rw [qq.2.1]; exact fun p => hc.2 a1 p (by omega)) (fun w' i1 i2 i3 i4 i5 => ⟨rfl, by constructor <;> omega, ih _ _ (by omega) (by omega) (fun k b1 b2 b3 b4 b5 b6 b7 b8 => by rw [i1 k b1 b2 b3 b4 b5 b6 b7 b8, q3 k b1 b2 b3 b4 b5 b6 b7 b8]) (fun z a b => ?_)⟩)⟩
      by_cases e : z = a1
      · subst e
        rw [qq.2.1] at i4 i5
        exact ⟨i4, rm_w2_c qq.1 qq.2.1 i5⟩
      · have o := q4 z a (by omega)
        have tb := rm_turn hI.2.2.2.1 a (show z ≤ 5 by omega)
        have pb := rm_pb hC hI a (show z ≤ 5 by omega)
        rw [(rm_cp hC hI).1] at pb
        refine ⟨?_, rm_w2_o (i2 z e).1 (i2 z e).2 (fun p p0 p1 => (i3 (24 * z + p) (by omega)).1) o.2⟩
        have o := o.1
        unfold rm_wd at o ⊢
        rw [(i2 z e).1, (i2 z e).2]
        refine ⟨o.1, o.2.1, fun y p p0 p1 => ?_⟩
        rw [(i3 (24 * z + p) (by omega)).1]
        exact o.2.2 y p p0 p1
  exact e_X12_windAll hC (l 6 0 w (by omega) (by omega) (fun _ _ _ _ _ _ _ _ _ => rfl) (fun z a b => by omega))
theorem S2_X12_stretch {g : ch_G} {A R : Nat} (hC : ck_Cx g A R) {d : Nat} {K : Option ck_V → ck_W → Prop} {w : ck_W} {a1 a2 a3 : Int} (hI : rm_I A R w) (h2 : 0 ≤ a2 ∧ a2 ≤ 23) (h3 : -1 ≤ a3 ∧ a3 ≤ 100) (hk : rm_wk R a1 a2 w) (h : 0 ≤ cs_sr (fun z => w 77 (10 + z)) (w 85) a1 a2 a3 6 0 0 ∧ cs_sr (fun z => w 77 (10 + z)) (w 85) a1 a2 a3 6 0 0 ≤ 1000 → K (some (.inl (cs_sr (fun z => w 77 (10 + z)) (w 85) a1 a2 a3 6 0 0))) w) : ck_Ex (ch_C g A R) (d + 1) mX12_stretch [.inr (.inr 76), .inl a1, .inl a2, .inl a3] w K := by
  have c := rm_cp hC hI
  have l : ∀ (m : Nat) (a4 a5 : Int), 6 - a5 = m → 0 ≤ a5 → (0 ≤ a4 ∧ a4 ≤ 150 * a5) → (0 ≤ cs_sr (fun z => w 77 (10 + z)) (w 85) a1 a2 a3 m a5 a4 ∧ cs_sr (fun z => w 77 (10 + z)) (w 85) a1 a2 a3 m a5 a4 ≤ 1000 → K (some (.inl (cs_sr (fun z => w 77 (10 + z)) (w 85) a1 a2 a3 m a5 a4))) w) → ck_At (ch_C g A R) (d + 1) mX12_stretch K 6 [some (.inr (.inr 76)), some (.inl a1), some (.inl a2), some (.inl a3), some (.inl a4), some (.inl a5)] [] w := by
    intro m
    induction m with
    | zero =>
      intro a4 a5 q1 q2 q3 h
      rw [cs_sr] at h
      exact r_X12_stretch_6 hC ⟨fun _ => h (by omega), fun z => absurd (by omega) z⟩
    | succ m ih =>
      intro a4 a5 q1 q2 q3 h
      rw [cs_sr] at h
      refine r_X12_stretch_6 hC ⟨fun z => absurd z (by omega), fun _ => ⟨by omega, fun z => ⟨by constructor <;> omega, ih _ _ (by omega) (by omega) (by omega) (by rw [if_pos z] at h; exact h)⟩, fun z => ?_⟩⟩
      have b := hk a5 q2 (by omega) (by omega)
      rw [if_neg z, show a5 * 24 + a2 = 24 * a5 + a2 by omega] at h
      exact ⟨by omega, by constructor <;> omega, by omega, fun x ex => ⟨by constructor <;> omega, by constructor <;> omega, ih _ _ (by omega) (by omega) (by omega) (by rw [ex]; exact h)⟩⟩
  exact e_X12_stretch hC (l 6 0 0 (by omega) (by omega) (by omega) h)
/-- the width so far, as both keep it -/
def rs_wr (t f : Int → Int) (k p : Int) (s : Int × Int) (v : Int) : Prop := (s.1 = 0 ∧ v = -1) ∨ (1 ≤ s.1 ∧ v = s.1 ∧ s.2 = cs_sr t f k p s.1 6 0 0)
theorem S2_X12_widthOf {g : ch_G} {A R : Nat} (hC : ck_Cx g A R) {d : Nat} {K : Option ck_V → ck_W → Prop} {w : ck_W} {a1 a2 : Int} (hI : rm_I A R w) (h2 : 0 ≤ a2 ∧ a2 ≤ 23) (hk : rm_wk R a1 a2 w) (h : ∀ v, -1 ≤ v ∧ v ≤ 100 → rs_wr (fun z => w 77 (10 + z)) (w 85) a1 a2 (cs_wd (fun z => w 77 (10 + z)) (w 85) a1 a2 6 0 (0, 0)) v → K (some (.inl v)) w) : ck_Ex (ch_C g A R) (d + 2) mX12_widthOf [.inr (.inr 76), .inl a1, .inl a2] w K := by
  have c := rm_cp hC hI
  have l : ∀ (m : Nat) (s : Int × Int) (a3 a4 : Int), 6 - a4 = m → 0 ≤ a4 → (-1 ≤ a3 ∧ a3 ≤ 100) → rs_wr (fun z => w 77 (10 + z)) (w 85) a1 a2 s a3 → (∀ v, -1 ≤ v ∧ v ≤ 100 → rs_wr (fun z => w 77 (10 + z)) (w 85) a1 a2 (cs_wd (fun z => w 77 (10 + z)) (w 85) a1 a2 m a4 s) v → K (some (.inl v)) w) → ck_At (ch_C g A R) (d + 2) mX12_widthOf K 5 [some (.inr (.inr 76)), some (.inl a1), some (.inl a2), some (.inl a3), some (.inl a4), none] [] w := by
    intro m
    induction m with
    | zero =>
      intro s a3 a4 q1 q2 q3 q4 h
      rw [cs_wd] at h
      exact r_X12_widthOf_5 hC ⟨fun _ => h a3 q3 q4, fun z => absurd (by omega) z⟩
    | succ m ih =>
      intro s a3 a4 q1 q2 q3 q4 h
      rw [cs_wd] at h
      refine r_X12_widthOf_5 hC ⟨fun z => absurd z (by omega), fun _ => ⟨by omega, fun z => ?_, fun z => ⟨by constructor <;> omega, ih s _ _ (by omega) (by omega) q3 q4 (by rw [if_pos (by omega)] at h; exact h)⟩⟩⟩
      have b := hk a4 q2 (by omega) z
      rw [if_neg (show ¬ w 77 (10 + a4) < a1 by omega), show a4 * 24 + a2 = 24 * a4 + a2 by omega] at h
      refine ⟨by omega, fun x ex => ⟨by constructor <;> omega, fun y => ⟨by constructor <;> omega, ih (x, cs_sr (fun z => w 77 (10 + z)) (w 85) a1 a2 x 6 0 0) _ _ (by omega) (by omega) (by omega) (Or.inr ⟨by dsimp only; omega, rfl, rfl⟩) ?_⟩, fun y => ?_⟩⟩
      · rcases q4 with e | e
        · rw [if_pos e.1, ← ex] at h; exact h
        · omega
      rcases q4 with e | e
      · omega
      obtain ⟨e1, e2, e3⟩ := e
      rw [if_neg (show ¬ s.1 = 0 by omega), ← ex, e3] at h
      have ks : rs_wr (fun z => w 77 (10 + z)) (w 85) a1 a2 s a3 := Or.inr ⟨e1, e2, e3⟩
      refine S2_X12_stretch hC hI h2 (by omega) hk (fun b1 => ⟨_, rfl, fun _ => S2_X12_stretch hC hI h2 (by omega) hk (fun b2 => ⟨_, rfl, fun _ => ⟨fun y1 => ⟨by constructor <;> omega, ih (x, cs_sr (fun z => w 77 (10 + z)) (w 85) a1 a2 x 6 0 0) _ _ (by omega) (by omega) (by omega) (Or.inr ⟨by dsimp only; omega, rfl, rfl⟩) (by rw [e2] at y1; rw [if_pos y1] at h; exact h)⟩, fun y1 => ?_⟩⟩)⟩)
      rw [e2] at y1
      rw [if_neg y1] at h
      refine S2_X12_stretch hC hI h2 (by omega) hk (fun b3 => ⟨_, rfl, fun _ => S2_X12_stretch hC hI h2 (by omega) hk (fun b4 => ⟨_, rfl, fun _ => ⟨fun y2 => ⟨by constructor <;> omega, ih s _ _ (by omega) (by omega) q3 ks (by rw [e2] at y2; rw [if_pos y2] at h; exact h)⟩, fun y2 => ?_⟩⟩)⟩)
      rw [e2] at y2
      rw [if_neg (fun q => q y2)] at h
      exact ⟨fun y3 => ⟨by constructor <;> omega, ih s _ _ (by omega) (by omega) q3 ks (by rw [if_pos (by omega)] at h; exact h)⟩, fun y3 => ⟨by constructor <;> omega, ih (x, cs_sr (fun z => w 77 (10 + z)) (w 85) a1 a2 x 6 0 0) _ _ (by omega) (by omega) (by omega) (Or.inr ⟨by dsimp only; omega, rfl, rfl⟩) (by rw [if_neg (by omega)] at h; exact h)⟩⟩
  exact e_X12_widthOf hC (l 6 (0, 0) (-1) 0 (by omega) (by omega) (by omega) (Or.inl ⟨rfl, rfl⟩) h)
/-- where some slice counts, there is a width -/
theorem cs_wdp {t f : Int → Int} {k p : Int} (hf : ∀ z, 0 ≤ z → z ≤ 5 → k ≤ t z → 0 ≤ f (z * 24 + p)) : ∀ (n : Nat) (z : Int) (s : Int × Int), 0 ≤ z → z + n ≤ 6 → (1 ≤ s.1 ∨ (s.1 = 0 ∧ ∃ y, z ≤ y ∧ y < z + n ∧ k ≤ t y)) → 1 ≤ (cs_wd t f k p n z s).1
  | 0, z, s, h0, h1, h2 => by
    rw [cs_wd]
    rcases h2 with h | ⟨_, y, a, b, _⟩
    · exact h
    · omega
  | n + 1, z, s, h0, h1, h2 => by
    rw [cs_wd]
    refine cs_wdp hf n (z + 1) _ (by omega) (by omega) ?_
    by_cases q : t z < k
    · rw [if_pos q]
      rcases h2 with h | ⟨h, y, a, b, e⟩
      · exact Or.inl h
      · have ne : y ≠ z := fun x => by rw [x] at e; omega
        exact Or.inr ⟨h, y, by omega, by omega, e⟩
    · have fz := hf z h0 (by omega) (by omega)
      rw [if_neg q]
      left
      have y : 1 ≤ f (z * 24 + p) + 1 := by omega
      by_cases s0 : s.1 = 0
      · rw [if_pos s0]; exact y
      · rw [if_neg s0]
        have s1 : 1 ≤ s.1 := by
          rcases h2 with h | h
          · exact h
          · exact absurd h.1 s0
        repeat' split
        all_goals first | exact s1 | exact y
theorem M2_flat {g : ch_G} {A R : Nat} (hC : ck_Cx g A R) {d : Nat} {K : Option ck_V → ck_W → Prop} {w : ck_W} {a1 a2 a3 : Int} {cp : Int → Int → Int} (hI : rm_I A R w) (hc : rm_cps w cp)
    (h1 : ((1 ≤ a1 ∧ a1 ≤ 4) ∧ (0 ≤ a2 ∧ a2 ≤ a1 * (A : Int) - 2) ∧ (0 ≤ a3 ∧ a3 ≤ 2)) → ∀ w', rm_q w w' → (∀ z, 0 ≤ z → z ≤ 5 → rm_w2 A R w z (w 77 (10 + z) * A) (cp z) w') → (∃ z, (0 ≤ z ∧ z ≤ 5) ∧ a1 ≤ w 77 (10 + z)) → (∀ z, 0 ≤ z → z ≤ 5 → a1 ≤ w 77 (10 + z) → 0 ≤ w' 83 z) → K (some (.inl (if a3 = 0 then (cs_wd (fun z => w 77 (10 + z)) (w' 85) a1 a2 6 0 (0, 0)).1 else if a3 = 1 then cs_fl (fun z => w 77 (10 + z)) (w' 85) a1 1 a2 0 else cs_fl (fun z => w 77 (10 + z)) (w' 85) a1 (a2 + 1).toNat 0 0))) w')
    (h0 : ∀ w', rm_q w w' → (((1 ≤ a1 ∧ a1 ≤ 4) ∧ (0 ≤ a2 ∧ a2 ≤ a1 * (A : Int) - 2) ∧ (0 ≤ a3 ∧ a3 ≤ 2)) → (∀ z, 0 ≤ z → z ≤ 5 → rm_w2 A R w z (w 77 (10 + z) * A) (cp z) w') ∧ ((∀ z, 0 ≤ z → z ≤ 5 → w 77 (10 + z) < a1) ∨ ∃ z, (0 ≤ z ∧ z ≤ 5) ∧ a1 ≤ w 77 (10 + z) ∧ w' 83 z < 0)) → K (some (.inl (-1))) w') : ck_Ex (ch_C g A R) (d + 7) mX12_flat [.inr (.inr 76), .inl a1, .inl a2, .inl a3] w K := by
  have c := rm_cp hC hI
  have no : ¬ ((1 ≤ a1 ∧ a1 ≤ 4) ∧ (0 ≤ a2 ∧ a2 ≤ a1 * (A : Int) - 2) ∧ (0 ≤ a3 ∧ a3 ≤ 2)) → K (some (.inl (-1))) w := fun q => h0 w rm_q_rf (fun y => absurd y q)
  refine e_X12_flat hC ?_
  rw [c.1]
  refine ⟨fun q1 => ?_, fun q => no (fun x => q x.1)⟩
  have mb : 3 ≤ a1 * (A : Int) ∧ a1 * (A : Int) ≤ 24 := by
    have := cs_ar hC
    rcases (by omega : a1 = 1 ∨ a1 = 2 ∨ a1 = 3 ∨ a1 = 4) with e | e | e | e <;> rw [e] <;> omega
  refine ⟨by constructor <;> omega, fun q2 => ⟨fun q3 => ?_, fun q => no (fun x => q x.2.2)⟩, fun q => no (fun x => q x.2.1)⟩
  refine S2_X12_windAll hC hI hc (fun u i1 i2 => ⟨rfl, ?_⟩)
  have qq := rm_q_wf i1
  have hIu := rm_I_q hI qq
  have e77 := qq.2.1
  have k2 : ∀ z, 0 ≤ z → z ≤ 5 → rm_w2 A R w z (w 77 (10 + z) * A) (cp z) u := fun z a b => (i2 z a b).2
  have l2 : (∃ z, (0 ≤ z ∧ z ≤ 5) ∧ a1 ≤ w 77 (10 + z)) → (∀ i, 0 ≤ i → i ≤ a2 → rm_wk R a1 i u) → ∀ (m : Nat) (a6 a7 : Int), a2 + 1 - a7 = m → 0 ≤ a7 → (a7 ≤ 24) → (0 ≤ a6 ∧ a6 ≤ 1000 * a7) → K (some (.inl (cs_fl (fun z => w 77 (10 + z)) (u 85) a1 m a7 a6))) u → ck_At (ch_C g A R) (d + 7) mX12_flat K 135 [some (.inr (.inr 76)), some (.inl a1), some (.inl a2), none, none, none, some (.inl a6), some (.inl a7)] [] u := by
    intro ex wk m
    induction m with
    | zero =>
      intro a6 a7 q1 q2 q2b q3 k
      rw [cs_fl] at k
      exact r_X12_flat_135 hC ⟨fun _ => k, fun z => absurd (by omega) z⟩
    | succ m ih =>
      intro a6 a7 q1 q2 q2b q3 k
      rw [cs_fl] at k
      have wk7 := wk a7 q2 (by omega)
      refine r_X12_flat_135 hC ⟨fun z => absurd z (by omega), fun z => S2_X12_widthOf hC hIu (by omega) wk7 (fun v b rs => ⟨_, rfl, fun _ => S2_X12_stretch hC hIu (by omega) (by omega) wk7 (fun b2 => ⟨_, rfl, fun _ => ⟨by constructor <;> omega, by constructor <;> omega, ih _ _ (by omega) (by omega) (by omega) (by omega) ?_⟩⟩)⟩)⟩
      rw [e77] at rs ⊢
      obtain ⟨y, y0, y1⟩ := ex
      have ps := cs_wdp (t := fun z => w 77 (10 + z)) (f := u 85) (k := a1) (p := a7) (fun z a b q => by
        rw [show z * 24 + a7 = 24 * z + a7 by omega]
        exact (wk7 z a b (by rw [e77]; exact q)).1) 6 0 (0, 0) (by omega) (by omega) (Or.inr ⟨rfl, y, by omega, by omega, y1⟩)
      rcases rs with r | r
      · omega
      · rw [r.2.1]; exact k
  have l1 : ∀ (m : Nat) (a4 a5 : Int), 6 - a5 = m → 0 ≤ a5 → (∀ z, 0 ≤ z → z < a5 → a1 ≤ w 77 (10 + z) → 0 ≤ u 83 z) → ((a4 = 0 ∧ ∀ z, 0 ≤ z → z < a5 → w 77 (10 + z) < a1) ∨ (a4 ≠ 0 ∧ ∃ z, (0 ≤ z ∧ z < a5) ∧ a1 ≤ w 77 (10 + z))) → ck_At (ch_C g A R) (d + 7) mX12_flat K 46 [some (.inr (.inr 76)), some (.inl a1), some (.inl a2), some (.inl a3), some (.inl a4), some (.inl a5), none, none] [] u := by
    intro m
    induction m with
    | zero =>
      intro a4 a5 q4 q5 q6 q7
      have wk : ∀ i, 0 ≤ i → i ≤ a2 → rm_wk R a1 i u := fun i b1 b2 z z0 z1 z2 => by
        rw [e77] at z2
        have tb := rm_turn hI.2.2.2.1 z0 z1
        refine (i2 z z0 z1).1.2.2 (q6 z z0 (by omega) z2) i b1 ?_
        have m1 : a1 * (A : Int) ≤ w 77 (10 + z) * (A : Int) := Int.mul_le_mul_of_nonneg_right z2 (by omega)
        omega
      refine r_X12_flat_46 hC ⟨fun _ => ⟨fun y => ?_, fun y => ?_⟩, fun z => absurd (by omega) z⟩
      · rcases q7 with q | ⟨_, z, z0, z1⟩
        · exact absurd q.1 y
        have ex : ∃ z, (0 ≤ z ∧ z ≤ 5) ∧ a1 ≤ w 77 (10 + z) := ⟨z, by omega, z1⟩
        have k := h1 ⟨q1, q2, q3⟩ u qq k2 ex (fun z a b y => q6 z a (by omega) y)
        have wk2 := wk a2 q2.1 (by omega)
        refine S2_X12_widthOf hC hIu (by omega) wk2 (fun v b rs => ⟨_, rfl, fun _ => ?_⟩)
        have ps := cs_wdp (t := fun z => w 77 (10 + z)) (f := u 85) (k := a1) (p := a2) (fun z a b q => by
          rw [show z * 24 + a2 = 24 * z + a2 by omega]
          exact (wk2 z a b (by rw [e77]; exact q)).1) 6 0 (0, 0) (by omega) (by omega) (Or.inr ⟨rfl, z, by omega, by omega, z1⟩)
        rw [e77] at rs
        have ev : v = (cs_wd (fun z => w 77 (10 + z)) (u 85) a1 a2 6 0 (0, 0)).1 := by
          rcases rs with r | r
          · omega
          · exact r.2.1
        refine ⟨fun y3 => l2 ex wk (a2 + 1).toNat 0 0 (by omega) (by omega) (by omega) (by omega) (by rw [if_neg (by omega), if_neg (by omega)] at k; exact k), fun y3 => ⟨fun y4 => S2_X12_stretch hC hIu (by omega) (by omega) wk2 (fun b2 => ⟨_, rfl, fun _ => ?_⟩), fun y4 => ?_⟩⟩
        · rw [if_neg y4, if_pos (by omega), cs_fl, cs_fl, Int.zero_add] at k
          rw [e77, ev]
          exact k
        · rw [if_pos y4] at k
          rw [ev]
          exact k
      · rcases q7 with q | q
        · exact h0 u qq (fun _ => ⟨k2, Or.inl (fun z a b => q.2 z a (by omega))⟩)
        · exact absurd y q.1
    | succ m ih =>
      intro a4 a5 q4 q5 q6 q7
      refine r_X12_flat_46 hC ⟨fun z => absurd z (by omega), fun _ => ⟨by omega, fun z => ⟨by omega, fun z2 => ⟨by constructor <;> omega, ih _ _ (by omega) (by omega) (fun y y0 y1 y2 => ?_) (Or.inr ⟨by decide, a5, by omega, by rw [e77] at z; exact z⟩)⟩, fun z2 => h0 u qq (fun _ => ⟨k2, Or.inr ⟨a5, by omega, by rw [e77] at z; exact z, by omega⟩⟩)⟩, fun z => ⟨by constructor <;> omega, ih _ _ (by omega) (by omega) (fun y y0 y1 y2 => ?_) ?_⟩⟩⟩
      · by_cases e : y = a5
        · subst e; exact z2
        · exact q6 y y0 (by omega) y2
      · by_cases e : y = a5
        · subst e; rw [e77] at z; omega
        · exact q6 y y0 (by omega) y2
      · rw [e77] at z
        rcases q7 with q | ⟨q, y, y0, y1⟩
        · refine Or.inl ⟨q.1, fun y y0 y1 => ?_⟩
          by_cases e : y = a5
          · subst e; omega
          · exact q.2 y y0 (by omega)
        · exact Or.inr ⟨q, y, by omega, y1⟩
  exact l1 6 0 0 (by omega) (by omega) (fun z a b => by omega) (Or.inl ⟨rfl, fun z a b => by omega⟩)
