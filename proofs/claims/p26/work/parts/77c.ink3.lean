/-! ===== the reference's ink, exact ===== -/
def rs_g (R : Nat) (f : Int → Int) (z a r : Int) : Int := if 0 ≤ r ∧ r ≤ (R : Int) - 1 then f (20 + (72 * z + 12 * a + r)) else 0
def rs_k (A : Nat) (f b : Int → Int) (z p : Int) : Int := f (460 + (72 * z + 12 * (p.tmod (A : Int)) + b (24 * z + p)))
/-- the names at a place: f the reference's row, b the radii -/
def rs_v (A R : Nat) (f b : Int → Int) (z p n : Int) : Int := if n = 0 then rs_g R f z (p.tmod (A : Int)) (b (24 * z + p)) else if n = 1 then rs_k A f b z p else if n = 2 then b (24 * z + p) else if n = 3 then p.tdiv (A : Int) else if n = 4 then p.tmod (A : Int) else if n = 5 then z else if n = 6 then rs_g R f z (p.tmod (A : Int)) (b (24 * z + p) - 1) else if n = 7 then rs_g R f z (p.tmod (A : Int)) (b (24 * z + p) + 1) else rs_k A f b z p - (if p ≤ 0 then 0 else rs_k A f b z (p - 1))
theorem S2_X12_greyAt {g : ch_G} {A R : Nat} (hC : ck_Cx g A R) {d : Nat} {K : Option ck_V → ck_W → Prop} {w : ck_W} {a1 a2 a3 : Int} (hI : rm_I A R w) (h1 : 0 ≤ a1 ∧ a1 ≤ 5) (h2 : 0 ≤ a2) (h : (0 ≤ rs_g R (w 77) a1 (a2.tmod (A : Int)) a3 ∧ rs_g R (w 77) a1 (a2.tmod (A : Int)) a3 ≤ 9) → K (some (.inl (rs_g R (w 77) a1 (a2.tmod (A : Int)) a3))) w) : ck_Ex (ch_C g A R) (d + 2) mX12_greyAt [.inr (.inr 76), .inl a1, .inl a2, .inl a3] w K := by
  have c := rm_cp hC hI
  have t := rm_tmb (p := a2) (a := w 76 0) (by omega) h2
  have eA := hI.1
  have eR := hI.2.1
  rw [eA] at t
  unfold rs_g at h
  refine e_X12_greyAt hC ?_
  rw [eA, eR]
  refine ⟨by omega, fun q => ?_, fun q => ?_⟩
  · rw [if_pos q] at h
    have g := rm_grey hI.2.2.2.1 (j := 20 + (72 * a1 + 12 * (a2.tmod (A : Int)) + a3)) (by omega) (by omega)
    exact ⟨by omega, by constructor <;> omega, by constructor <;> omega, by omega, h g⟩
  · rw [if_neg q] at h
    exact h (by decide)
theorem S2_X12_crackAt {g : ch_G} {A R : Nat} (hC : ck_Cx g A R) {d : Nat} {K : Option ck_V → ck_W → Prop} {w : ck_W} {a1 a2 : Int} (hI : rm_I A R w) (h1 : 0 ≤ a1 ∧ a1 ≤ 5) (h2 : 0 ≤ a2 ∧ a2 ≤ 23) (hb : 0 ≤ w 85 (24 * a1 + a2) ∧ w 85 (24 * a1 + a2) < (R : Int)) (h : (0 ≤ rs_k A (w 77) (w 85) a1 a2 ∧ rs_k A (w 77) (w 85) a1 a2 ≤ 9) → K (some (.inl (rs_k A (w 77) (w 85) a1 a2))) w) : ck_Ex (ch_C g A R) (d + 1) mX12_crackAt [.inr (.inr 76), .inl a1, .inl a2] w K := by
  have c := rm_cp hC hI
  have t := rm_tmb (p := a2) (a := w 76 0) (by omega) h2.1
  have eA := hI.1
  rw [eA] at t
  unfold rs_k at h
  have g := rm_grey hI.2.2.2.1 (j := 460 + (72 * a1 + 12 * (a2.tmod (A : Int)) + w 85 (24 * a1 + a2))) (by omega) (by omega)
  refine e_X12_crackAt hC ?_
  rw [eA]
  exact ⟨by omega, by omega, by constructor <;> omega, by constructor <;> omega, by omega, h g⟩
theorem ck_nine {w : ck_W} {v0 v1 v2 v3 v4 v5 v6 v7 v8 : Int} {P : Int → Int → Prop} (h0 : P 0 v0) (h1 : P 1 v1) (h2 : P 2 v2) (h3 : P 3 v3) (h4 : P 4 v4) (h5 : P 5 v5) (h6 : P 6 v6) (h7 : P 7 v7) (h8 : P 8 v8) : ∀ j, 0 ≤ j → j < 9 → P j ((ck_up (ck_up (ck_up (ck_up (ck_up (ck_up (ck_up (ck_up (ck_up w 91 0 v0) 91 1 v1) 91 2 v2) 91 3 v3) 91 4 v4) 91 5 v5) 91 6 v6) 91 7 v7) 91 8 v8) 91 j) := by
  intro j j0 j1
  rcases (by omega : j = 8 ∨ j = 7 ∨ j = 6 ∨ j = 5 ∨ j = 4 ∨ j = 3 ∨ j = 2 ∨ j = 1 ∨ j = 0) with e | e | e | e | e | e | e | e | e <;> subst e
  · rw [ck_up_eq]; exact h8
  · rw [ck_up_nj (by decide), ck_up_eq]; exact h7
  · rw [ck_up_nj (by decide), ck_up_nj (by decide), ck_up_eq]; exact h6
  · rw [ck_up_nj (by decide), ck_up_nj (by decide), ck_up_nj (by decide), ck_up_eq]; exact h5
  · rw [ck_up_nj (by decide), ck_up_nj (by decide), ck_up_nj (by decide), ck_up_nj (by decide), ck_up_eq]; exact h4
  · rw [ck_up_nj (by decide), ck_up_nj (by decide), ck_up_nj (by decide), ck_up_nj (by decide), ck_up_nj (by decide), ck_up_eq]; exact h3
  · rw [ck_up_nj (by decide), ck_up_nj (by decide), ck_up_nj (by decide), ck_up_nj (by decide), ck_up_nj (by decide), ck_up_nj (by decide), ck_up_eq]; exact h2
  · rw [ck_up_nj (by decide), ck_up_nj (by decide), ck_up_nj (by decide), ck_up_nj (by decide), ck_up_nj (by decide), ck_up_nj (by decide), ck_up_nj (by decide), ck_up_eq]; exact h1
  · rw [ck_up_nj (by decide), ck_up_nj (by decide), ck_up_nj (by decide), ck_up_nj (by decide), ck_up_nj (by decide), ck_up_nj (by decide), ck_up_nj (by decide), ck_up_nj (by decide), ck_up_eq]; exact h0
theorem S2_X12_namePlace {g : ch_G} {A R : Nat} (hC : ck_Cx g A R) {d : Nat} {K : Option ck_V → ck_W → Prop} {w : ck_W} {a1 a2 : Int} (hI : rm_I A R w) (h1 : 0 ≤ a1 ∧ a1 ≤ 5) (h2 : 0 ≤ a2 ∧ a2 < w 77 (10 + a1) * w 76 0) (hsp : rm_sp R a1 w) (h : ∀ w', (∀ k, k ≠ 91 → w' k = w k) → (∀ j, 0 ≤ j → j < 9 → w' 91 j = rs_v A R (w 77) (w 85) a1 a2 j ∧ (-1000 ≤ w' 91 j ∧ w' 91 j ≤ 1000)) → K none w') : ck_Ex (ch_C g A R) (d + 3) mX12_namePlace [.inr (.inr 76), .inl a1, .inl a2] w K := by
  have c := rm_cp hC hI
  have pb := rm_pb hC hI h1.1 h1.2
  have t := rm_tmb (p := a2) (a := w 76 0) (by omega) h2.1
  have t2 : 0 ≤ a2.tdiv (w 76 0) ∧ a2.tdiv (w 76 0) ≤ 24 := by
    rw [Int.tdiv_eq_ediv_of_nonneg h2.1]
    exact ⟨Int.ediv_nonneg h2.1 (by omega), by have := Int.ediv_le_self (w 76 0) h2.1; omega⟩
  have sp := hsp a2 h2.1 h2.2
  have eA := hI.1
  have st : ∀ u : ck_W, (∀ k, k ≠ 91 → u k = w k) → rm_I A R u := fun u e => rm_I_c hI (e 76 (by decide)) (e 77 (by decide)) (e 78 (by decide)) (e 79 (by decide))
  have P : ∀ (u : ck_W), (∀ k, k ≠ 91 → u k = w k) → ∀ r, rs_g R (u 77) a1 (a2.tmod (A : Int)) r = rs_g R (w 77) a1 (a2.tmod (A : Int)) r := fun u e r => by rw [e 77 (by decide)]
  have Q : ∀ (u : ck_W), (∀ k, k ≠ 91 → u k = w k) → ∀ p, rs_k A (u 77) (u 85) a1 p = rs_k A (w 77) (w 85) a1 p := fun u e p => by rw [e 77 (by decide), e 85 (by decide)]
  refine e_X12_namePlace hC ⟨by omega, ?_⟩
  refine S2_X12_greyAt hC hI h1 h2.1 (fun b1 => ⟨_, rfl, fun _ => ?_⟩)
  have k1 : ∀ k, k ≠ 91 → (ck_up w 91 0 (rs_g R (w 77) a1 (a2.tmod (A : Int)) (w 85 (24 * a1 + a2)))) k = w k := fun k hk => ck_up_ne hk
  refine S2_X12_crackAt hC (st _ k1) h1 (by omega) sp (fun b2 => ⟨_, rfl, fun _ => ?_⟩)
  rw [Q _ k1] at b2 ⊢
  refine ⟨by show ¬ w 76 0 = 0; omega, by show ck_i (a2.tdiv (w 76 0)); constructor <;> omega, by show ck_i (a2.tmod (w 76 0)); constructor <;> omega, by constructor <;> omega, ?_⟩
  have k5 : ∀ k, k ≠ 91 → (ck_up (ck_up (ck_up (ck_up (ck_up (ck_up w 91 0 (rs_g R (w 77) a1 (a2.tmod (A : Int)) (w 85 (24 * a1 + a2)))) 91 1 (rs_k A (w 77) (w 85) a1 a2)) 91 2 (w 85 (24 * a1 + a2))) 91 3 (a2.tdiv (w 76 0))) 91 4 (a2.tmod (w 76 0))) 91 5 a1) k = w k := fun k hk => by rw [ck_up_ne hk, ck_up_ne hk, ck_up_ne hk, ck_up_ne hk, ck_up_ne hk, ck_up_ne hk]
  refine S2_X12_greyAt hC (st _ k5) h1 h2.1 (fun b3 => ⟨_, rfl, fun _ => ⟨by constructor <;> omega, ?_⟩⟩)
  have e3 := P _ k5 (w 85 (24 * a1 + a2) - 1)
  have k6 : ∀ k, k ≠ 91 → (ck_up (ck_up (ck_up (ck_up (ck_up (ck_up (ck_up w 91 0 (rs_g R (w 77) a1 (a2.tmod (A : Int)) (w 85 (24 * a1 + a2)))) 91 1 (rs_k A (w 77) (w 85) a1 a2)) 91 2 (w 85 (24 * a1 + a2))) 91 3 (a2.tdiv (w 76 0))) 91 4 (a2.tmod (w 76 0))) 91 5 a1) 91 6 (rs_g R (w 77) a1 (a2.tmod (A : Int)) (w 85 (24 * a1 + a2) - 1))) k = w k := fun k hk => by rw [ck_up_ne hk]; exact k5 k hk
  refine S2_X12_greyAt hC (st _ k6) h1 h2.1 (fun b4 => ⟨_, rfl, fun _ => ?_⟩)
  have k7 : ∀ k, k ≠ 91 → (ck_up (ck_up (ck_up (ck_up (ck_up (ck_up (ck_up (ck_up w 91 0 (rs_g R (w 77) a1 (a2.tmod (A : Int)) (w 85 (24 * a1 + a2)))) 91 1 (rs_k A (w 77) (w 85) a1 a2)) 91 2 (w 85 (24 * a1 + a2))) 91 3 (a2.tdiv (w 76 0))) 91 4 (a2.tmod (w 76 0))) 91 5 a1) 91 6 (rs_g R (w 77) a1 (a2.tmod (A : Int)) (w 85 (24 * a1 + a2) - 1))) 91 7 (rs_g R (w 77) a1 (a2.tmod (A : Int)) (w 85 (24 * a1 + a2) + 1))) k = w k := fun k hk => by rw [ck_up_ne hk]; exact k6 k hk
  refine S2_X12_crackAt hC (st _ k7) h1 (by omega) sp (fun b5 => ⟨_, rfl, fun _ => ?_⟩)
  have b3' : 0 ≤ rs_g R (w 77) a1 (a2.tmod (A : Int)) (w 85 (24 * a1 + a2) - 1) ∧ rs_g R (w 77) a1 (a2.tmod (A : Int)) (w 85 (24 * a1 + a2) - 1) ≤ 9 := b3
  have b4' : 0 ≤ rs_g R (w 77) a1 (a2.tmod (A : Int)) (w 85 (24 * a1 + a2) + 1) ∧ rs_g R (w 77) a1 (a2.tmod (A : Int)) (w 85 (24 * a1 + a2) + 1) ≤ 9 := b4
  have fin : ∀ v, v = rs_k A (w 77) (w 85) a1 a2 - (if a2 ≤ 0 then 0 else rs_k A (w 77) (w 85) a1 (a2 - 1)) → (-1000 ≤ v ∧ v ≤ 1000) → ∀ j, 0 ≤ j → j < 9 → (ck_up (ck_up (ck_up (ck_up (ck_up (ck_up (ck_up (ck_up (ck_up w 91 0 (rs_g R (w 77) a1 (a2.tmod (A : Int)) (w 85 (24 * a1 + a2)))) 91 1 (rs_k A (w 77) (w 85) a1 a2)) 91 2 (w 85 (24 * a1 + a2))) 91 3 (a2.tdiv (w 76 0))) 91 4 (a2.tmod (w 76 0))) 91 5 a1) 91 6 (rs_g R (w 77) a1 (a2.tmod (A : Int)) (w 85 (24 * a1 + a2) - 1))) 91 7 (rs_g R (w 77) a1 (a2.tmod (A : Int)) (w 85 (24 * a1 + a2) + 1))) 91 8 v) 91 j = rs_v A R (w 77) (w 85) a1 a2 j ∧ _ := fun v ev hv => ck_nine (P := fun j x => x = rs_v A R (w 77) (w 85) a1 a2 j ∧ (-1000 ≤ x ∧ x ≤ 1000)) ⟨rfl, by omega⟩ ⟨rfl, by omega⟩ ⟨rfl, by omega⟩ ⟨by rw [eA]; rfl, by omega⟩ ⟨by rw [eA]; rfl, by omega⟩ ⟨rfl, by omega⟩ ⟨rfl, by omega⟩ ⟨rfl, by omega⟩ ⟨ev, hv⟩
  have b5' : 0 ≤ rs_k A (w 77) (w 85) a1 a2 ∧ rs_k A (w 77) (w 85) a1 a2 ≤ 9 := b2
  refine ⟨fun q => ⟨by show ck_i (rs_k A (w 77) (w 85) a1 a2 - 0); constructor <;> omega, h _ (fun k hk => by rw [ck_up_ne hk]; exact k7 k hk) (fin _ (by rw [if_pos q]; rfl) (by show -1000 ≤ rs_k A (w 77) (w 85) a1 a2 - 0 ∧ rs_k A (w 77) (w 85) a1 a2 - 0 ≤ 1000; omega))⟩, fun q => ⟨by constructor <;> omega, ?_⟩⟩
  refine S2_X12_crackAt hC (st _ k7) h1 (by omega) (hsp (a2 - 1) (by omega) (by omega)) (fun b6 => ⟨_, rfl, fun _ => ?_⟩)
  have b6' : 0 ≤ rs_k A (w 77) (w 85) a1 (a2 - 1) ∧ rs_k A (w 77) (w 85) a1 (a2 - 1) ≤ 9 := b6
  exact ⟨by show ck_i (rs_k A (w 77) (w 85) a1 a2 - rs_k A (w 77) (w 85) a1 (a2 - 1)); constructor <;> omega, h _ (fun k hk => by rw [ck_up_ne hk]; exact k7 k hk) (fin _ (by rw [if_neg q]; rfl) (by show -1000 ≤ rs_k A (w 77) (w 85) a1 a2 - rs_k A (w 77) (w 85) a1 (a2 - 1) ∧ rs_k A (w 77) (w 85) a1 a2 - rs_k A (w 77) (w 85) a1 (a2 - 1) ≤ 1000; omega))⟩
/-- once bare, always bare -/
theorem cv_bare {val cd : Int → Int} : ∀ (n : Nat) (i : Int) (t : (Int × Int) × cv_S), t.1.2 = 1 → (cv_rn val cd n i t).1.2 = 1
  | 0, _, t, h => h
  | n + 1, i, t, h => by
    rw [cv_rn]
    refine cv_bare n _ _ ?_
    unfold cv_st
    repeat' split
    all_goals first | exact h | rfl
/-- what the run answers -/
def cv_an (t : (Int × Int) × cv_S) : Int := if t.1.1 = 0 then 0 else if t.1.2 = 0 then 1 else 0
theorem S2_X12_isInk {g : ch_G} {A R : Nat} (hC : ck_Cx g A R) {d : Nat} {K : Option ck_V → ck_W → Prop} {w : ck_W} {a1 a2 a3 e : Int} {cd : Int → Int} {j0 : Int → Int} (hI : rm_I A R w) (h0 : 0 ≤ a1 ∧ a1 < w 77 0) (h1 : 0 ≤ a2 ∧ a2 ≤ 5) (h2 : 0 ≤ a3 ∧ a3 < w 77 (10 + a2) * w 76 0) (hsp : rm_sp R a2 w) (hX : cX (800 * a1) (w 79 (800 * a1)) e cd (w 79))
    (h : ∀ w', (∀ k, k ≠ 91 → k ≠ 92 → k ≠ 93 → w' k = w k) → K (some (.inl (cv_an (cv_rn (rs_v A R (w 77) (w 85) a2 a3) cd (w 79 (800 * a1) + e).toNat 0 ((0, 0), (0, j0)))))) w') : ck_Ex (ch_C g A R) (d + 4) mX12_isInk [.inr (.inr 76), .inl a1, .inl a2, .inl a3] w K := by
  have f0 := rm_c0 hI.2.2.2.1
  refine e_X12_isInk hC (S2_X12_namePlace hC hI h1 h2 hsp (fun u i1 i2 => ⟨rfl, ?_⟩))
  have tx := hI.2.2.2.2.2.2.2.2 a1 h0.1 h0.2
  have txb := tx.2.1
  -- where clause k begins
  have fst : ∀ k, 0 ≤ k → k < w 79 (800 * a1) → w 79 (800 * a1 + 2 + 3 * k) = (if k = 0 then 0 else w 79 (800 * a1 + 3 * k)) := fun k k0 k1 => (hX.2.2 k k0 k1).2.1
  have l : ∀ (m : Nat) (a4 a5 : Int) (u' : ck_W) (s : cv_S), w 79 (800 * a1) - a5 = m → 0 ≤ a5 → (a4 = 0 ∨ a4 = 1) → (∀ k, k ≠ 91 → k ≠ 92 → k ≠ 93 → u' k = w k) → (u' 91 = u 91) → s.1 = 0 → 0 ≤ (if a5 = 0 then 0 else w 79 (800 * a1 + 3 * a5)) → cv_rn (rs_v A R (w 77) (w 85) a2 a3) cd (a5 + (if a5 = 0 then 0 else w 79 (800 * a1 + 3 * a5))).toNat 0 ((0, 0), (0, j0)) = ((a4, 0), s) → ck_At (ch_C g A R) (d + 4) mX12_isInk K 12 [some (.inr (.inr 76)), some (.inl a1), none, none, some (.inl a4), some (.inl a5)] [] u' := by
    intro m
    induction m with
    | zero =>
      intro a4 a5 u' s q1 q2 q3 q4 q5 q6 q7 q8
      refine r_X12_isInk_12 hC ?_
      rw [q4 79 (by decide) (by decide) (by decide)]
      refine ⟨by omega, fun _ => ⟨q3, ?_⟩, fun z => absurd (by omega) z⟩
      have k := h u' q4
      have ee : (if a5 = 0 then 0 else w 79 (800 * a1 + 3 * a5)) = e := by
        by_cases z : a5 = 0
        · rw [if_pos z]; exact (hX.1 (by omega)).symm
        · rw [if_neg z, show a5 = w 79 (800 * a1) by omega]; exact hX.2.1 (by omega)
      rw [ee, show a5 = w 79 (800 * a1) by omega] at q8
      rw [q8] at k
      refine K_of k ?_
      unfold cv_an
      dsimp only
      rcases q3 with z | z
      · rw [if_pos z, z]
      · rw [if_neg (by omega), if_pos rfl, z]
    | succ m ih =>
      intro a4 a5 u' s q1 q2 q3 q4 q5 q6 q7 q8
      have e79 := q4 79 (by decide) (by decide) (by decide)
      obtain ⟨x1, x2, x3, x4, x5⟩ := hX.2.2 a5 q2 (by omega)
      have cl := tx.2.2 a5 q2 (by omega)
      have cl0 := cl.1
      have cl1 := cl.2.1
      refine r_X12_isInk_12 hC ?_
      rw [e79]
      refine ⟨by omega, fun z => absurd z (by omega), fun _ => ?_⟩
      refine S2_X12_isSo (val := rs_v A R (w 77) (w 85) a2 a3) (cd := cd) (q0 := (a4, 0)) (s0 := s) hC (by omega) (by omega) (by rw [e79]; exact cl) (by rw [q5]; exact fun j j0 j1 => (i2 j j0 j1).2) (by rw [q5]; exact fun j j0 j1 => (i2 j j0 j1).1) (by rw [e79]; exact x3) (by rw [e79]; exact x5) q6 (fun v w' s' b0 b1 b2 b3 b4 => ⟨_, rfl, fun _ => ?_⟩)
      have k1 : ∀ k, k ≠ 91 → k ≠ 92 → k ≠ 93 → w' k = w k := fun k x y z => by rw [b1 k y z, q4 k x y z]
      have k2 : w' 91 = u 91 := by rw [b1 91 (by decide) (by decide), q5]
      rw [e79] at b2
      rw [← x2] at q8 q7
      -- the clause's own end
      have pp : cv_pp s' = (v, (0, s'.2)) := by
        unfold cv_pp
        rw [if_pos (by omega), b3]
        show (s'.2 (1 - 1), ((1 - 1 : Int), s'.2)) = _
        rw [show (1 - 1 : Int) = 0 by decide, b4]
      have run : cv_rn (rs_v A R (w 77) (w 85) a2 a3) cd (a5 + w 79 (800 * a1 + 3 + 3 * a5)).toNat 0 ((0, 0), (0, j0)) = ((a4, 0), s') := by
        rw [show (a5 + w 79 (800 * a1 + 3 + 3 * a5)).toNat = (a5 + w 79 (800 * a1 + 2 + 3 * a5)).toNat + (w 79 (800 * a1 + 3 + 3 * a5) - w 79 (800 * a1 + 2 + 3 * a5)).toNat by omega, cv_rn_a, q8, show (0 : Int) + (((a5 + w 79 (800 * a1 + 2 + 3 * a5)).toNat : Nat) : Int) = a5 + w 79 (800 * a1 + 2 + 3 * a5) by omega]
        exact b2
      have run2 : cv_rn (rs_v A R (w 77) (w 85) a2 a3) cd (a5 + 1 + w 79 (800 * a1 + 3 + 3 * a5)).toNat 0 ((0, 0), (0, j0)) = cv_st (rs_v A R (w 77) (w 85) a2 a3) (20003 + w 79 (800 * a1 + 1 + 3 * a5)) ((a4, 0), s') := by
        rw [show (a5 + 1 + w 79 (800 * a1 + 3 + 3 * a5)).toNat = (a5 + w 79 (800 * a1 + 3 + 3 * a5)).toNat + 1 by omega, cv_rn_s, run, show (0 : Int) + (((a5 + w 79 (800 * a1 + 3 + 3 * a5)).toNat : Nat) : Int) = a5 + w 79 (800 * a1 + 3 + 3 * a5) by omega, x4]
      have nxt : ∀ b, (b = 0 ∨ b = 1) → cv_st (rs_v A R (w 77) (w 85) a2 a3) (20003 + w 79 (800 * a1 + 1 + 3 * a5)) ((a4, 0), s') = ((b, 0), (0, s'.2)) → ck_At (ch_C g A R) (d + 4) mX12_isInk K 12 [some (.inr (.inr 76)), some (.inl a1), none, none, some (.inl b), some (.inl (a5 + 1))] [] w' := fun b hb eb => by
        refine ih b (a5 + 1) w' (0, s'.2) (by omega) (by omega) hb k1 k2 rfl ?_ ?_
        · rw [if_neg (by omega), show 800 * a1 + 3 * (a5 + 1) = 800 * a1 + 3 + 3 * a5 by omega]; omega
        · rw [if_neg (by omega), show 800 * a1 + 3 * (a5 + 1) = 800 * a1 + 3 + 3 * a5 by omega, run2, eb]
      have w79 : w' 79 = w 79 := by rw [b1 79 (by decide) (by decide), e79]
      refine ⟨fun vn => ⟨by omega, fun s2 => ⟨by constructor <;> omega, nxt 1 (by decide) ?_⟩, fun s2 => ?_⟩, fun vz => ⟨by constructor <;> omega, nxt a4 q3 ?_⟩⟩
      · rw [w79] at s2
        rw [show 800 * a1 + 1 + 3 * a5 = 800 * a1 + 1 + 3 * a5 from rfl] at s2
        have s1 : w 79 (800 * a1 + 1 + 3 * a5) = 1 := by omega
        rw [s1]
        unfold cv_st
        rw [if_neg (by decide), if_neg (by decide), if_pos (by decide)]
        dsimp only
        rw [pp]
        dsimp only
        rw [if_neg vn]
      · rw [w79] at s2
        have k := h w' k1
        refine K_of k ?_
        have bare : (cv_rn (rs_v A R (w 77) (w 85) a2 a3) cd (w 79 (800 * a1) + e).toNat 0 ((0, 0), (0, j0))).1.2 = 1 := by
          have en : w 79 (800 * a1 + 3 + 3 * a5) ≤ e := by
            have mono : ∀ (n : Nat) (k : Int), 0 ≤ k → k + n = w 79 (800 * a1) - 1 → w 79 (800 * a1 + 3 + 3 * k) ≤ e := by
              intro n
              induction n with
              | zero =>
                intro k k0 k1
                have := hX.2.1 (by omega)
                rw [show 800 * a1 + 3 * w 79 (800 * a1) = 800 * a1 + 3 + 3 * k by omega] at this
                omega
              | succ n ihn =>
                intro k k0 k1
                have nx := ihn (k + 1) (by omega) (by omega)
                have c1 := (tx.2.2 (k + 1) (by omega) (by omega)).2.1
                have f1 := fst (k + 1) (by omega) (by omega)
                rw [if_neg (by omega), show 800 * a1 + 3 * (k + 1) = 800 * a1 + 3 + 3 * k by omega] at f1
                omega
            exact mono (w 79 (800 * a1) - 1 - a5).toNat a5 q2 (by omega)
          rw [show (w 79 (800 * a1) + e).toNat = (a5 + 1 + w 79 (800 * a1 + 3 + 3 * a5)).toNat + ((w 79 (800 * a1) + e).toNat - (a5 + 1 + w 79 (800 * a1 + 3 + 3 * a5)).toNat) by omega, cv_rn_a, run2]
          refine cv_bare _ _ _ ?_
          rw [s2]
          unfold cv_st
          rw [if_neg (by decide), if_neg (by decide), if_neg (by decide), if_pos (by decide)]
          dsimp only
          rw [pp]
          dsimp only
          rw [if_neg vn]
        unfold cv_an
        rw [bare]
        split
        · rfl
        · rfl
      · unfold cv_st
        rw [if_neg (by omega), if_neg (by omega)]
        dsimp only
        rw [pp]
        dsimp only
        rcases x1 with x | x
        · rw [if_pos (by omega), if_pos vz]
        · rw [if_neg (by omega), if_pos (by omega), if_pos vz]
  exact l (w 79 (800 * a1)).toNat 0 0 u (0, j0) (by have := tx.1; omega) (by omega) (by decide) (fun k x y z => i1 k x) rfl rfl (by rw [if_pos rfl]; decide) (by rw [if_pos rfl]; rfl)
