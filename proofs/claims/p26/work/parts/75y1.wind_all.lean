/-! ===== both windings: the whole best way ===== -/
theorem cw_ff_sh {ok : Int → Bool} {d s : Int} : ∀ (n : Nat) (i j : Int), i ≤ j → j < i + n → ok (j + s) = true → cw_ff ok (fun i => i) d n (i + s) = cw_ff (fun j => ok (j + s)) (fun i => i) d n i + s
  | 0, i, j, a, b, _ => by omega
  | n + 1, i, j, a, b, h => by
    rw [cw_ff, cw_ff]
    by_cases q : ok (i + s) = true
    · rw [if_pos q, if_pos q]
    · rw [if_neg q, if_neg q, show i + s + 1 = i + 1 + s by omega]
      have e : j ≠ i := fun z => q (by rw [← z]; exact h)
      exact cw_ff_sh n (i + 1) j (by omega) (by omega) h
theorem rp_rq {A R : Nat} {n : Int} {g : Int → Int → Int} {pn : Int → Int} : ∀ (l : Nat) (r c : Int) (j : Nat), rp A R n g pn l r c j = (rq A R n g pn l r c j).1
  | l, r, c, 0 => by rw [rp, rq]
  | 0, r, c, j + 1 => by rw [rp, rq]
  | l + 1, r, c, j + 1 => by rw [rp, rq, rp_rq l]
theorem rp_add {A R : Nat} {n : Int} {g : Int → Int → Int} {pn : Int → Int} : ∀ (m l : Nat) (r c : Int) (j : Nat), rp A R n g pn (l + m) r c (m + j) = rp A R n g pn l (rq A R n g pn (l + m) r c m).1 (rq A R n g pn (l + m) r c m).2 j
  | 0, l, r, c, j => by simp only [rq, Nat.zero_add, Nat.add_zero]
  | m + 1, l, r, c, j => by
    rw [show l + (m + 1) = (l + m) + 1 by omega, show m + 1 + j = (m + j) + 1 by omega, rp, rq]
    exact rp_add m l _ _ j
theorem rb_le {B : Int} {h : Int → Int} : ∀ (k : Nat), (∀ j : Nat, j < k → cw_ok B (h j)) → cw_ok B (rb h k) ∧ ∀ j : Nat, j < k → h j / 1048576 ≤ rb h k / 1048576
  | 0, _ => ⟨Or.inl rfl, fun j hj => by omega⟩
  | k + 1, e => by
    have i := rb_le k (fun j hj => e j (by omega))
    have ek := e k (by omega)
    have l := cw_bt_le i.1 ek
    rw [rb]
    refine ⟨cw_bt_ok i.1 ek, fun j hj => ?_⟩
    by_cases q : j = k
    · rw [q]; exact l.2
    · exact Int.le_trans (i.2 j (by omega)) l.1
/-- a first radius has a window of the best just where the reference's best is the best of all -/
theorem row_hit {A R : Nat} (hA : 3 ≤ A ∧ A ≤ 6) (hR : 4 ≤ R ∧ R ≤ 12) {K : Int} (hK : 1 ≤ K ∧ K ≤ 4) {g : Int → Int → Int} {pn : Int → Int} {G : Int → Int → Int} (hg : ∀ p r, 0 ≤ g p r) (hGv : cw_Gv R G) (hG : ∀ p r, 0 ≤ p → p < K * (A : Int) → 0 ≤ r → r < (R : Int) → G p r = if pn p < 0 ∨ pn p = r then g p r * 1048576 else -1) (r : Int) (r0 : 0 ≤ r) (r1 : r < (R : Int)) : (∃ c, (0 ≤ c ∧ c < cw_N A) ∧ wX A R K G r 0 c ≠ 0 ∧ wX A R K G r 0 c / 1048576 = cw_be A R K G / 1048576) ↔ ((pn 0 < 0 ∨ pn 0 = r) ∧ (rf_F A R (K * (A : Int)) g pn (K * (A : Int) - 1).toNat r (wst A)).1 = cw_be A R K G / 1048576) := by
  have hN := cw_Nb hA
  have nn : ((cw_N A).toNat : Int) = cw_N A := by omega
  have ro : ∀ r : Int, 0 ≤ r → r < (R : Int) → cw_ok 1000 (if pn 0 < 0 ∨ pn 0 = r then ec (rf_F A R (K * (A : Int)) g pn (K * (A : Int) - 1).toNat r (wst A)) else 0) := fun r a b => by
    rw [← w_one hA hK hg hGv hG r a b]
    exact cw_fo_ok _ _ _ (Or.inl rfl) (fun j _ _ => wX_ok hA hK hGv r 0 j (by omega))
  have le := rb_le (B := 1000) (h := fun r => if pn 0 < 0 ∨ pn 0 = r then ec (rf_F A R (K * (A : Int)) g pn (K * (A : Int) - 1).toNat r (wst A)) else 0) R (fun j hj => ro j (by omega) (by omega))
  rw [← w_all hA hR hK hg hGv hG] at le
  have ler := le.2 r.toNat (by omega)
  have b0 : 0 ≤ cw_be A R K G / 1048576 := by
    rcases cw_ok_v le.1 with z | ⟨f, w, k, z⟩
    · rw [z]; decide
    · omega
  rw [show ((r.toNat : Nat) : Int) = r by omega, ← w_one hA hK hg hGv hG r r0 r1] at ler
  have h := cw_fo_hit (B := 1000) (f := wX A R K G r 0) (n := (cw_N A).toNat) (i := 0) (v := cw_be A R K G / 1048576) (fun j _ _ => wX_ok hA hK hGv r 0 j (by omega)) ler
  rw [w_one hA hK hg hGv hG r r0 r1, show (0 : Int) + ((cw_N A).toNat : Int) = cw_N A by omega] at h
  rw [h]
  have ok := rf_F_ok (A := A) (R := R) (n := K * (A : Int)) (pn := pn) hg (K * (A : Int) - 1).toNat r (wst A)
  have g0 := hg (K * (A : Int) - 1 - (((K * (A : Int) - 1).toNat : Nat) : Int)) r
  generalize rf_F A R (K * (A : Int)) g pn (K * (A : Int) - 1).toNat r (wst A) = x at *
  generalize cw_be A R K G / 1048576 = v at *
  by_cases pk : pn 0 < 0 ∨ pn 0 = r
  · rw [if_pos pk]
    unfold ec
    rcases ok with y | y
    · rw [if_pos (show x.1 < 0 by omega)]
      exact ⟨fun z => absurd rfl z.1, fun z => by omega⟩
    · rw [if_neg (show ¬ x.1 < 0 by omega)]
      exact ⟨fun z => ⟨pk, by omega⟩, fun z => ⟨by omega, by omega⟩⟩
  · rw [if_neg pk]
    exact ⟨fun z => absurd rfl z.1, fun z => absurd z.1 pk⟩
theorem tr_all {A R : Nat} (hA : 3 ≤ A ∧ A ≤ 6) (hR : 4 ≤ R ∧ R ≤ 12) {K : Int} (hK : 1 ≤ K ∧ K ≤ 4) {g : Int → Int → Int} {pn : Int → Int} {G : Int → Int → Int} (hg : ∀ p r, 0 ≤ g p r) (hGv : cw_Gv R G) (hG : ∀ p r, 0 ≤ p → p < K * (A : Int) → 0 ≤ r → r < (R : Int) → G p r = if pn p < 0 ∨ pn p = r then g p r * 1048576 else -1) {r0 : Int} (h0 : 0 ≤ r0 ∧ r0 < (R : Int)) (h1 : (pn 0 < 0 ∨ pn 0 = r0) ∧ (rf_F A R (K * (A : Int)) g pn (K * (A : Int) - 1).toNat r0 (wst A)).1 = cw_be A R K G / 1048576) (h2 : ∀ r, 0 ≤ r → r < r0 → ¬ ((pn 0 < 0 ∨ pn 0 = r) ∧ (rf_F A R (K * (A : Int)) g pn (K * (A : Int) - 1).toNat r (wst A)).1 = cw_be A R K G / 1048576)) (p : Int) (p0 : 0 ≤ p) (p1 : p < K * (A : Int)) : cw_tr A R K G false p = rp A R (K * (A : Int)) g pn (K * (A : Int) - 1).toNat r0 (wst A) p.toNat := by
  have mA := w_mA hA hK
  have hN := cw_Nb hA
  have nn : ((cw_N A).toNat : Int) = cw_N A := by omega
  have hit := fun r a b => row_hit hA hR hK hg hGv hG r a b
  obtain ⟨c, hc, hc2⟩ := (hit r0 h0.1 h0.2).mpr h1
  -- not too far out
  have far : r0 ≤ (R : Int) - K := by
    by_cases q : (R : Int) - K < r0
    · exfalso
      have f := w_far hA hK hg hGv hG r0 h0.1 q h0.2
      exact cw_fo_nz (B := 1000) (cw_N A).toNat 0 0 (fun j _ _ => wX_ok hA hK hGv r0 0 j (by omega)) c hc.1 (by omega) hc2.1 (Or.inl rfl) f
    · omega
  have okd : ∀ r c, 0 ≤ c → c < cw_N A → (decide (cw_wi A R K G (c + r * cw_N A) ≠ 0 ∧ cw_wi A R K G (c + r * cw_N A) / 1048576 = cw_be A R K G / 1048576)) = decide (wX A R K G r 0 c ≠ 0 ∧ wX A R K G r 0 c / 1048576 = cw_be A R K G / 1048576) := fun r c a b => by rw [w_wi hA K G r c a b]
  -- the first window of the best
  have w0 : cw_w0 A R K G false = cw_ff (fun c => decide (wX A R K G r0 0 c ≠ 0 ∧ wX A R K G r0 0 c / 1048576 = cw_be A R K G / 1048576)) (fun i => i) 0 (cw_N A).toNat 0 + r0 * cw_N A := by
    have tid : (fun i : Int => if (false : Bool) = true then ((R : Int) - K + 1) * cw_N A - 1 - i else i) = fun i => i := by funext i; rfl
    have e1 : ((R : Int) - K + 1).toNat * (cw_N A).toNat = r0.toNat * (cw_N A).toNat + ((cw_N A).toNat + ((R : Int) - K - r0).toNat * (cw_N A).toNat) := by
      rw [show ((R : Int) - K + 1).toNat = r0.toNat + (1 + ((R : Int) - K - r0).toNat) by omega, Nat.add_mul, Nat.add_mul, Nat.one_mul]
    have e2 : (0 : Int) + ((r0.toNat * (cw_N A).toNat : Nat) : Int) = 0 + r0 * cw_N A := by
      rw [Int.natCast_mul, nn, show ((r0.toNat : Nat) : Int) = r0 by omega]
    have no : ∀ j : Int, 0 ≤ j → j < 0 + ((r0.toNat * (cw_N A).toNat : Nat) : Int) → ¬ decide (cw_wi A R K G j ≠ 0 ∧ cw_wi A R K G j / 1048576 = cw_be A R K G / 1048576) = true := by
      intro j j0 j1 hd
      rw [e2] at j1
      have b0 := Int.emod_nonneg j (b := cw_N A) (by omega)
      have b1 := Int.emod_lt_of_pos j (b := cw_N A) (by omega)
      have q0 : 0 ≤ j / cw_N A := Int.ediv_nonneg j0 (by omega)
      have q1 : j / cw_N A < r0 := Int.ediv_lt_of_lt_mul (by omega) (by omega)
      have je : j = j % cw_N A + j / cw_N A * cw_N A := by
        have := Int.mul_ediv_add_emod j (cw_N A)
        rw [Int.mul_comm] at this
        omega
      rw [je, okd _ _ b0 b1] at hd
      exact h2 _ q0 q1 ((hit _ q0 (by omega)).mp ⟨_, ⟨b0, b1⟩, of_decide_eq_true hd⟩)
    have yes : decide (cw_wi A R K G (c + r0 * cw_N A) ≠ 0 ∧ cw_wi A R K G (c + r0 * cw_N A) / 1048576 = cw_be A R K G / 1048576) = true := by
      rw [okd r0 c hc.1 hc.2]
      exact decide_eq_true hc2
    unfold cw_w0
    rw [tid, w_tn hA (by omega), e1, cw_ff_2 _ _ _ no, e2, cw_ff_1 _ _ _ (c + r0 * cw_N A) (by omega) (by omega) yes, cw_ff_sh _ _ c hc.1 (by omega) yes]
    congr 1
    exact cw_ff_e _ _ (fun j j0 j1 => okd r0 j j0 (by omega))
  have I := (cw_ff_in (ok := fun c => decide (wX A R K G r0 0 c ≠ 0 ∧ wX A R K G r0 0 c / 1048576 = cw_be A R K G / 1048576)) (t := fun i => i) (dflt := 0) (cw_N A).toNat 0 c hc.1 (by omega) (decide_eq_true hc2)).1
  have z : cw_sh A 0 0 = 0 := rfl
  have b0 : 0 ≤ cw_be A R K G / 1048576 := by
    rw [← hc2.2]
    rcases cw_ok_v (wX_ok hA hK hGv r0 0 c (by omega)) with z | ⟨f, w, k, z⟩
    · rw [z]; decide
    · omega
  have T := t0 hA hK hg hGv hG (A - 1) 0 r0 0 (by omega) ⟨Int.le_refl _, by decide⟩ (fun j hj => by rw [show j = 0 by omega, Int.zero_mul, z]; omega) (by rw [Int.zero_mul, z, Int.add_zero]; exact h1.1) (by rw [Int.zero_mul, z, Int.add_zero, wc_0, show K * (A : Int) - 1 - ((0 : Nat) : Int) = K * (A : Int) - 1 by omega, h1.2]; exact b0) _ rfl
  rw [wB_0, Int.zero_mul, z, wc_0, Int.add_zero, show K * (A : Int) - 1 - ((0 : Nat) : Int) = K * (A : Int) - 1 by omega, h1.2] at T
  generalize hc1 : cw_ff (fun c => decide (wX A R K G r0 0 c ≠ 0 ∧ wX A R K G r0 0 c / 1048576 = cw_be A R K G / 1048576)) (fun i => i) 0 (cw_N A).toNat 0 = c1 at T w0 I
  obtain ⟨t1, t2, t3⟩ := T
  have d1 : cw_w0 A R K G false / cw_N A = r0 := by
    rw [w0, Int.add_mul_ediv_right _ _ (by omega), Int.ediv_eq_zero_of_lt (by omega) (by omega), Int.zero_add]
  have d2 : cw_w0 A R K G false % cw_N A = c1 := by
    rw [w0, Int.add_mul_emod_self_right, Int.emod_eq_of_lt (by omega) (by omega)]
  unfold cw_tr
  rw [d1, d2]
  by_cases q : p < (A : Int)
  · rw [if_pos q, rp_rq]
    have := t3 p.toNat (by omega)
    rw [Nat.zero_add] at this
    exact this.symm
  · rw [if_neg q]
    obtain ⟨ne, v⟩ := w_v hA (of_decide_eq_true I).1
    have e := tr_eq hA hK hg hGv hG (K * (A : Int) - (A : Int)).toNat (p - (A : Int)).toNat r0 c1 (by omega) (by omega) (by rw [show K * (A : Int) - (A : Int) - (((K * (A : Int) - (A : Int)).toNat : Nat) : Int) = 0 by omega]; exact v) ne (by omega)
    have e3 : (K * (A : Int) - 1).toNat = (K * (A : Int) - (A : Int)).toNat + (A - 1) := by omega
    rw [e3] at t2
    rw [e, show p.toNat = (A - 1) + ((p - (A : Int)).toNat + 1) by omega, e3, rp_add, t2]
