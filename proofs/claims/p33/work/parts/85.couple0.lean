/-! ===== what a slice's winding depends on; the winding's rows after a change ===== -/
def cw_Ge (R : Nat) (G G' : Int → Int → Int) : Prop := ∀ p r, 0 ≤ p → p < 24 → 0 ≤ r → r < (R : Int) → G p r = G' p r
theorem cw_on_e {R : Nat} {G G' : Int → Int → Int} (h : cw_Ge R G G') {x p r : Int} (hp : 0 ≤ p ∧ p < 24) : cw_on R G x p r = cw_on R G' x p r := by
  unfold cw_on
  by_cases a : r < 0
  · rw [if_pos a, if_pos a]
  · rw [if_neg a, if_neg a]
    by_cases b : (R : Int) ≤ r
    · rw [if_pos b, if_pos b]
    · rw [if_neg b, if_neg b, h p r hp.1 hp.2 (by omega) (by omega)]
theorem cw_A_e {A R : Nat} {K : Int} {G G' : Int → Int → Int} (h : cw_Ge R G G') (hK : K * (A : Int) ≤ 24) : ∀ (l : Nat), (l : Int) ≤ K * (A : Int) → ∀ r c, cw_A A R K G l r c = cw_A A R K G' l r c
  | 0, _, _, _ => rfl
  | l + 1, hl, r, c => by
    have e : (fun ch => cw_on R G (cw_A A R K G l (r + cw_sh A c 1) (cw_ta A c + ch)) (K * (A : Int) - (l + 1)) (r + cw_sh A c (A - 1) - 1 + ch)) = (fun ch => cw_on R G' (cw_A A R K G' l (r + cw_sh A c 1) (cw_ta A c + ch)) (K * (A : Int) - (l + 1)) (r + cw_sh A c (A - 1) - 1 + ch)) := by
      funext ch
      rw [cw_A_e h hK l (by omega), cw_on_e h (by omega)]
    rw [cw_A, cw_A, e]
theorem cw_ww_e {A R : Nat} {G G' : Int → Int → Int} (h : cw_Ge R G G') {r c : Int} : ∀ (n : Nat) (p x : Int), 0 ≤ p → p + n ≤ 24 → cw_ww A R G r c n p x = cw_ww A R G' r c n p x
  | 0, _, _, _, _ => rfl
  | n + 1, p, x, h0, h1 => by
    rw [cw_ww, cw_ww]
    by_cases a : x = 0
    · rw [if_pos a, if_pos a]
    · rw [if_neg a, if_neg a]
      by_cases b : r + cw_sh A c p.toNat < 0
      · rw [if_pos b, if_pos b]
      · rw [if_neg b, if_neg b]
        by_cases e : (R : Int) ≤ r + cw_sh A c p.toNat
        · rw [if_pos e, if_pos e]
        · rw [if_neg e, if_neg e, h p (r + cw_sh A c p.toNat) h0 (by omega) (by omega) (by omega), cw_ww_e h n (p + 1) _ (by omega) (by omega)]
theorem cw_wi_e {A R : Nat} {K : Int} {G G' : Int → Int → Int} (h : cw_Ge R G G') (hK : (A : Int) ≤ K * (A : Int) ∧ K * (A : Int) ≤ 24) : cw_wi A R K G = cw_wi A R K G' := by
  funext i
  unfold cw_wi
  rw [cw_A_e h hK.2 _ (by omega), cw_ww_e h A 0 _ (by omega) (by omega)]
theorem cw_be_e {A R : Nat} {K : Int} {G G' : Int → Int → Int} (h : cw_Ge R G G') (hK : (A : Int) ≤ K * (A : Int) ∧ K * (A : Int) ≤ 24) : cw_be A R K G = cw_be A R K G' := by
  unfold cw_be
  rw [cw_wi_e h hK]
theorem cw_w0_e {A R : Nat} {K : Int} {G G' : Int → Int → Int} (h : cw_Ge R G G') (hK : (A : Int) ≤ K * (A : Int) ∧ K * (A : Int) ≤ 24) (fa : Bool) : cw_w0 A R K G fa = cw_w0 A R K G' fa := by
  unfold cw_w0
  rw [cw_wi_e h hK, cw_be_e h hK]
theorem cw_ch_e {A R : Nat} {K : Int} {G G' : Int → Int → Int} (h : cw_Ge R G G') (hK : K * (A : Int) ≤ 24) (fa : Bool) (l : Nat) (hl : ((l + 1 : Nat) : Int) ≤ K * (A : Int)) (r c : Int) : cw_ch A R K G fa l r c = cw_ch A R K G' fa l r c := by
  have e : (fun ch => cw_on R G (cw_A A R K G l (r + cw_sh A c 1) (cw_ta A c + ch)) (K * (A : Int) - (l + 1)) (r + cw_sh A c (A - 1) - 1 + ch)) = (fun ch => cw_on R G' (cw_A A R K G' l (r + cw_sh A c 1) (cw_ta A c + ch)) (K * (A : Int) - (l + 1)) (r + cw_sh A c (A - 1) - 1 + ch)) := by
    funext ch
    rw [cw_A_e h hK l (by omega), cw_on_e h (by omega)]
  have e2 := fun ch => congrFun e ch
  unfold cw_ch
  rw [cw_A_e h hK (l + 1) hl]
  have e3 : (fun ch => decide (cw_on R G (cw_A A R K G l (r + cw_sh A c 1) (cw_ta A c + ch)) (K * (A : Int) - (l + 1)) (r + cw_sh A c (A - 1) - 1 + ch) ≠ 0 ∧ cw_on R G (cw_A A R K G l (r + cw_sh A c 1) (cw_ta A c + ch)) (K * (A : Int) - (l + 1)) (r + cw_sh A c (A - 1) - 1 + ch) / 1048576 = cw_A A R K G' (l + 1) r c / 1048576)) = (fun ch => decide (cw_on R G' (cw_A A R K G' l (r + cw_sh A c 1) (cw_ta A c + ch)) (K * (A : Int) - (l + 1)) (r + cw_sh A c (A - 1) - 1 + ch) ≠ 0 ∧ cw_on R G' (cw_A A R K G' l (r + cw_sh A c 1) (cw_ta A c + ch)) (K * (A : Int) - (l + 1)) (r + cw_sh A c (A - 1) - 1 + ch) / 1048576 = cw_A A R K G' (l + 1) r c / 1048576)) := by
    funext ch
    rw [e2 ch]
  rw [e3]
theorem cw_tv_e {A R : Nat} {K : Int} {G G' : Int → Int → Int} (h : cw_Ge R G G') (hK : K * (A : Int) ≤ 24) (fa : Bool) : ∀ (l : Nat), (l : Int) ≤ K * (A : Int) → ∀ r c k, cw_tv A R K G fa l r c k = cw_tv A R K G' fa l r c k
  | 0, _, _, _, _ => rfl
  | l + 1, hl, r, c, 0 => by rw [cw_tv, cw_tv, cw_ch_e h hK fa l hl]
  | l + 1, hl, r, c, k + 1 => by rw [cw_tv, cw_tv, cw_ch_e h hK fa l hl, cw_tv_e h hK fa l (by omega)]
theorem cw_tr_e {A R : Nat} {K : Int} {G G' : Int → Int → Int} (h : cw_Ge R G G') (hK : (A : Int) ≤ K * (A : Int) ∧ K * (A : Int) ≤ 24) (fa : Bool) (p : Int) : cw_tr A R K G fa p = cw_tr A R K G' fa p := by
  unfold cw_tr
  rw [cw_w0_e h hK, cw_tv_e h hK.2 fa _ (by omega)]
/-- the winding's rows stay right when every slice that changed is forgotten -/
theorem cw_IV_set {A R : Nat} {g : ch_G} (hC : ck_Cx g A R) {w w' : ck_W} (hI : cw_IV A R w) (fr : ∀ k, 51 ≤ k → k ≤ 63 → k ≠ 59 → w' k = w k) (hD : cs_D A R w') (hT : cs_T w') (hY : cs_Y A R w')
    (h59 : ∀ z, 0 ≤ z → z ≤ 5 → w' 59 z ≠ 0 → w 59 z ≠ 0 ∧ w' 6 z = w 6 z ∧ (∀ p, 0 ≤ p → p < 24 → w' 7 (z * 24 + p) = w 7 (z * 24 + p)) ∧ ∀ a r, 0 ≤ a → a < (A : Int) → 0 ≤ r → r < (R : Int) → w' 4 (cs_at A R z a r) = w 4 (cs_at A R z a r)) : cw_IV A R w' := by
  have c := cs_ar hC
  obtain ⟨⟨i1, i2, i3⟩, ⟨i4, i5, i6⟩, i7, i8, i9⟩ := hI
  have f51 := fr 51 (by decide) (by decide) (by decide)
  have f57 := fr 57 (by decide) (by decide) (by decide)
  have f60 := fr 60 (by decide) (by decide) (by decide)
  have f61 := fr 61 (by decide) (by decide) (by decide)
  have f62 := fr 62 (by decide) (by decide) (by decide)
  have f63 := fr 63 (by decide) (by decide) (by decide)
  refine ⟨⟨hD, hT, hY⟩, ⟨cw_tab_fr i4 (by rw [f51]) (by rw [f51]) (fun k a b => fr k (by omega) (by omega) (by omega)), ?_, ?_⟩, ?_, ?_, fun z z0 z1 zn => ?_⟩
  · unfold cw_dead; rw [f57]; exact i5
  · rw [f57]; exact i6
  · rw [f62]; exact i7
  · rw [f60, f61]; exact i8
  · obtain ⟨k1, k2, k3, k4⟩ := h59 z z0 z1 zn
    have t := cs_tb hC i2 ⟨z0, z1⟩
    have ge : cw_Ge R (cw_g A R w' z) (cw_g A R w z) := by
      intro p r p0 p1 r0 r1
      have m0 := Int.emod_nonneg p (show (A : Int) ≠ 0 by omega)
      have m1 := Int.emod_lt_of_pos p (show 0 < (A : Int) by omega)
      unfold cw_g
      rw [k3 p p0 p1, k4 _ _ m0 m1 r0 r1]
    have q := i9 z z0 z1 k1
    unfold cw_res at q ⊢
    rw [k2, f60, f61, f62, f63, cw_be_e ge ⟨t.2.1, t.2.2⟩]
    refine ⟨q.1, q.2.1, fun n p p0 p1 => ?_⟩
    rw [cw_tr_e ge ⟨t.2.1, t.2.2⟩, cw_tr_e ge ⟨t.2.1, t.2.2⟩]
    exact q.2.2 n p p0 p1
/-- cells of one slice are none of another's -/
theorem cs_at_ne {A R : Nat} {z a r z' a' r' : Int} (h : cs_ok A R z a r) (h' : cs_ok A R z' a' r') (n : z ≠ z') : cs_at A R z a r ≠ cs_at A R z' a' r' := by
  have key : ∀ z a r z' a' r' : Int, cs_ok A R z a r → cs_ok A R z' a' r' → z < z' → cs_at A R z a r < cs_at A R z' a' r' := by
    intro z a r z' a' r' h h' l
    unfold cs_at
    have m1 : (z + 1) * (A : Int) ≤ z' * (A : Int) := Int.mul_le_mul_of_nonneg_right (by omega) (by omega)
    rw [Int.add_mul, Int.one_mul] at m1
    have q1 := h.2.1
    have q2 := h'.2.1
    have q3 := h.2.2
    have q4 := h'.2.2
    have m2 : (z * (A : Int) + a + 1) * (R : Int) ≤ (z' * (A : Int) + a') * (R : Int) := Int.mul_le_mul_of_nonneg_right (by omega) (by omega)
    rw [Int.add_mul (z * (A : Int) + a), Int.one_mul] at m2
    omega
  intro e
  rcases Int.lt_or_gt_of_ne n with l | l
  · have := key _ _ _ _ _ _ h h' l; omega
  · have := key _ _ _ _ _ _ h' h l; omega
