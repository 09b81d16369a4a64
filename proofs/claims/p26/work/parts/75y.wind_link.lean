/-! ===== the reference's tables are the pure ones ===== -/
/-- grey by place and radius, as the reference reads it; 0 outside -/
def wg (R : Nat) (w : ck_W) (z p r : Int) : Int := if (0 ≤ p ∧ 0 ≤ r) ∧ r < (R : Int) then rm_gr w z p r else 0
theorem wg_0 {A R : Nat} {gg : ch_G} (hC : ck_Cx gg A R) {w : ck_W} (hI : rm_I A R w) {z : Int} (hz : 0 ≤ z ∧ z ≤ 5) (p r : Int) : 0 ≤ wg R w z p r ∧ wg R w z p r ≤ 9 := by
  unfold wg
  split
  · rename_i h
    exact rm_grb hC hI hz h.1.1 ⟨h.1.2, h.2⟩
  · omega
theorem ft_F {A R : Nat} {gg : ch_G} (hC : ck_Cx gg A R) {w : ck_W} (hI : rm_I A R w) {z n : Int} (hn : n ≤ 24) (h : rm_ft R z n w) : ∀ (l : Nat) (p r c : Int), p = n - 1 - l → 0 ≤ p → 0 ≤ r ∧ r < (R : Int) → 0 ≤ c ∧ c < cw_N A → (w 80 (rm_x p r c), w 81 (rm_x p r c)) = rf_F A R n (wg R w z) (w 87) l r c := by
  have cp := rm_cp hC hI
  have eN : w 76 2 = cw_N A := hI.2.2.1
  have hN := cw_Nb (A := A) ⟨hC.2.1, hC.2.2.1⟩
  intro l
  induction l with
  | zero =>
    intro p r c hp p0 hr hc
    have e := (h p r c p0 (by omega) hr.1 hr.2 hc.1 (by rw [eN]; exact hc.2)).1
    unfold rm_ws at e
    rw [if_pos (show p + 1 = n by omega)] at e
    rw [e, rf_F, show n - 1 = p by omega]
    unfold wg
    rw [if_pos ⟨⟨p0, hr.1⟩, hr.2⟩]
  | succ l ih =>
    intro p r c hp p0 hr hc
    have e := (h p r c p0 (by omega) hr.1 hr.2 hc.1 (by rw [eN]; exact hc.2)).1
    unfold rm_ws at e
    rw [if_neg (show ¬ p + 1 = n by omega)] at e
    have eg : wg R w z p r = rm_gr w z p r := by
      unfold wg
      rw [if_pos ⟨⟨p0, hr.1⟩, hr.2⟩]
    have st : ∀ e s, -1 ≤ e → rm_s1 w (rm_gr w z p r) p r c e s = rf_s A R (w 87) (rf_F A R n (wg R w z) (w 87) l) (rm_gr w z p r) p r c e s := by
      intro e s he
      unfold rm_s1 rf_s
      rw [cp.1, cp.2.1, eN]
      split
      · rename_i go
        have nb := rm_ncb (m := cw_N A) (c := c) (e := e) (by omega) (by omega)
        have i := ih (p + 1) (r + e) (rm_nc (cw_N A) c e) (by omega) (by omega) (by have := go.1; omega) nb
        rw [← i]
      · rfl
    rw [e, rf_F, show n - 2 - (l : Int) = p by omega, eg, st (-1) _ (by decide), st 0 _ (by decide), st 1 _ (by decide)]
/-- the best of all first radii -/
theorem rwb_rb {A R : Nat} {gg : ch_G} (hC : ck_Cx gg A R) {w : ck_W} (hI : rm_I A R w) {z n : Int} (hz : 0 ≤ z ∧ z ≤ 5) (hn : 1 ≤ n ∧ n ≤ 24) (h : rm_ft R z n w) : ∀ k : Nat, (k : Int) ≤ (R : Int) → ((rwb (w 80) (w 81) (w 87 0) (wst A) k).1 = -1 ∧ (rwb (w 80) (w 81) (w 87 0) (wst A) k).2 = 0 ∧ rb (fun r => if w 87 0 < 0 ∨ w 87 0 = r then ec (rf_F A R n (wg R w z) (w 87) (n - 1).toNat r (wst A)) else 0) k = 0) ∨ (0 ≤ (rwb (w 80) (w 81) (w 87 0) (wst A) k).1 ∧ 1 ≤ (rwb (w 80) (w 81) (w 87 0) (wst A) k).2 ∧ rb (fun r => if w 87 0 < 0 ∨ w 87 0 = r then ec (rf_F A R n (wg R w z) (w 87) (n - 1).toNat r (wst A)) else 0) k = (rwb (w 80) (w 81) (w 87 0) (wst A) k).1 * 1048576 + min (rwb (w 80) (w 81) (w 87 0) (wst A) k).2 1000000) := by
  have hN := cw_Nb (A := A) ⟨hC.2.1, hC.2.2.1⟩
  intro k
  induction k with
  | zero => intro _; exact Or.inl ⟨rfl, rfl, rfl⟩
  | succ k ih =>
    intro hk
    have i := ih (by omega)
    have F := ft_F hC hI hn.2 h (n - 1).toNat 0 k (wst A) (by omega) (by omega) (by omega) (by unfold wst; omega)
    have ok := rf_F_ok (A := A) (R := R) (n := n) (pn := w 87) (fun p r => (wg_0 hC hI hz p r).1) (n - 1).toNat k (wst A)
    have g0 := (wg_0 hC hI hz (n - 1 - (((n - 1).toNat : Nat) : Int)) k).1
    rw [rwb, rb]
    generalize hs : rwb (w 80) (w 81) (w 87 0) (wst A) k = s at i ⊢
    generalize rb (fun r => if w 87 0 < 0 ∨ w 87 0 = r then ec (rf_F A R n (wg R w z) (w 87) (n - 1).toNat r (wst A)) else 0) k = b at i ⊢
    rw [← F]
    rw [← F] at ok
    generalize w 80 (rm_x 0 (k : Int) (wst A)) = x at ok ⊢
    generalize w 81 (rm_x 0 (k : Int) (wst A)) = y at ok ⊢
    unfold rf_ok at ok
    dsimp only at ok
    by_cases pk : w 87 0 < 0 ∨ w 87 0 = (k : Int)
    · rw [if_pos pk]
      unfold ec
      dsimp only
      by_cases x0 : x < 0
      · rw [if_pos (Or.inr (Or.inl x0)), if_pos x0, cw_bt_0]
        exact i
      · rw [if_neg x0]
        have yb : 1 ≤ y ∧ y ≤ 1000000 := by omega
        rcases i with ⟨i1, i2, i3⟩ | ⟨i1, i2, i3⟩
        · rw [if_neg (by omega), i3, cw_0_bt, if_neg (by omega)]
          right
          dsimp only
          refine ⟨by omega, by omega, by omega⟩
        · rw [i3, cw_bt_v ⟨i1, by omega, by omega⟩ ⟨by omega, yb.1, yb.2⟩]
          by_cases lt : x < s.1
          · rw [if_pos (Or.inr (Or.inr lt)), if_neg (by omega), if_neg (by omega)]
            exact Or.inr ⟨i1, i2, rfl⟩
          · rw [if_neg (by omega)]
            right
            by_cases eq : x = s.1
            · rw [if_pos eq, if_pos (by omega)]
              dsimp only
              refine ⟨by omega, by omega, by omega⟩
            · rw [if_neg eq, if_neg (by omega), if_pos (by omega)]
              dsimp only
              refine ⟨by omega, by omega, by omega⟩
    · rw [if_pos (Or.inl pk), if_neg pk, cw_bt_0]
      exact i
