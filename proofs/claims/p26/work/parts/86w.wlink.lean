/-! ===== both windings give the same ===== -/
def cj_cp (A : Nat) (w : ck_W) (z p : Int) : Int := if p < 4 * (A : Int) then w 7 (z * 24 + p) else -1
theorem cj_cp1 {A R : Nat} {w : ck_W} (hI : rm_I A R w) (hc : cj_C A R w (w 77)) {z : Int} : ∀ k, 0 ≤ k → k < w 77 1 → w 77 (900 + 3 * k) = z → cj_cp A w z (w 77 (900 + 3 * k + 1)) = w 77 (900 + 3 * k + 2) := by
  intro k k0 k1 e
  have c0 := (rm_c0 hI.2.2.2.1).2.1
  have p1 := rm_pin1 hI.2.2.2.1 k0 (by omega)
  have x := hc.2.2.2.2.2.2.2.2.1 k k0 k1
  unfold cj_cp
  rw [if_pos (by omega), ← e]
  exact x
theorem cj_cp2 {A R : Nat} {w : ck_W} (hc : cj_C A R w (w 77)) {z : Int} (hz : 0 ≤ z ∧ z ≤ 5) : ∀ p, 0 ≤ p → p < 24 → (∀ k, 0 ≤ k → k < w 77 1 → ¬ (w 77 (900 + 3 * k) = z ∧ w 77 (900 + 3 * k + 1) = p)) → cj_cp A w z p = -1 := by
  intro p p0 p1 no
  unfold cj_cp
  by_cases q : p < 4 * (A : Int)
  · rw [if_pos q]
    exact (hc.1.2 z p ⟨hz, p0, by omega⟩).mpr no
  · rw [if_neg q]
/-- a pinned place has a radius -/
theorem cj_cpv {A R : Nat} {w : ck_W} (hI : rm_I A R w) (hc : cj_C A R w (w 77)) {z p : Int} (hz : 0 ≤ z ∧ z ≤ 5) (p0 : 0 ≤ p) (p1 : p < 4 * (A : Int)) : w 7 (z * 24 + p) = -1 ∨ 0 ≤ w 7 (z * 24 + p) := by
  by_cases e : w 7 (z * 24 + p) = -1
  · exact Or.inl e
  · right
    have ex : ∃ k, (0 ≤ k ∧ k < w 77 1) ∧ w 77 (900 + 3 * k) = z ∧ w 77 (900 + 3 * k + 1) = p := Classical.byContradiction (fun hx => e ((hc.1.2 z p ⟨hz, p0, by omega⟩).mpr (fun k k0 k1 h => hx ⟨k, ⟨k0, k1⟩, h⟩)))
    obtain ⟨k, hk, h1, h2⟩ := ex
    have c0 := (rm_c0 hI.2.2.2.1).2.1
    have x := hc.2.2.2.2.2.2.2.2.1 k hk.1 hk.2
    have p2 := rm_pin2 hI.2.2.2.1 hk.1 (by omega)
    rw [h1, h2] at x
    omega
theorem cj_wl {A R : Nat} {gg : ch_G} (hC : ck_Cx gg A R) {w : ck_W} (hI : rm_I A R w) (hV : cw_IV A R w) (hc : cj_C A R w (w 77)) {z : Int} (hz : 0 ≤ z ∧ z ≤ 5) {w' : ck_W} (h : rm_w2 A R w z (w 77 (10 + z) * A) (cj_cp A w z) w') : (cw_be A R (w 6 z) (cw_g A R w z) = 0 → w' 83 z = -1 ∧ w' 84 z = 0) ∧ (cw_be A R (w 6 z) (cw_g A R w z) ≠ 0 → w' 83 z = cw_be A R (w 6 z) (cw_g A R w z) / 1048576 ∧ w' 84 z = cw_be A R (w 6 z) (cw_g A R w z) % 1048576 ∧ ∀ p, 0 ≤ p → p < w 6 z * (A : Int) → w' 85 (24 * z + p) = cw_tr A R (w 6 z) (cw_g A R w z) false p) := by
  have hA : 3 ≤ A ∧ A ≤ 6 := ⟨hC.2.1, hC.2.2.1⟩
  have ar := cs_ar hC
  have hR : 4 ≤ R ∧ R ≤ 12 := by omega
  have ct := hc.2.2.2.2.2.2.2.1 z hz.1 hz.2
  have cg := hc.2.2.2.2.2.2.1
  have hK := hV.1.2.1 z hz.1 hz.2
  have tb := cs_tb hC hV.1.2.1 hz
  have gv := cw_gv hC hV.1.2.2 hz
  rw [← ct] at h
  have kA : w 6 z * (A : Int) ≤ 4 * (A : Int) := Int.mul_le_mul_of_nonneg_right hK.2 (by omega)
  obtain ⟨v, f1, f2, f3, f4, f5, f6, f7, f8⟩ := h
  have st := wst_e hA hI
  rw [st] at f6 f7
  have cpv := rm_cp hC f2
  have hg : ∀ p r, 0 ≤ wg R v z p r := fun p r => (wg_0 hC f2 hz p r).1
  have hG : ∀ p r, 0 ≤ p → p < w 6 z * (A : Int) → 0 ≤ r → r < (R : Int) → cw_g A R w z p r = if v 87 p < 0 ∨ v 87 p = r then wg R v z p r * 1048576 else -1 := by
    intro p r p0 p1 r0 r1
    have e7 : v 87 p = w 7 (z * 24 + p) := by
      rw [f5 p p0 p1]
      unfold cj_cp
      rw [if_pos (by omega)]
    have q7 := cj_cpv hI hc hz p0 (show p < 4 * (A : Int) by omega)
    have m0 := Int.emod_nonneg p (b := (A : Int)) (by omega)
    have m1 := Int.emod_lt_of_pos p (b := (A : Int)) (by omega)
    have eg : wg R v z p r = w 4 (cs_at A R z (p % (A : Int)) r) := by
      unfold wg rm_gr
      rw [if_pos ⟨⟨p0, r0⟩, r1⟩, cpv.1, f4, Int.tmod_eq_emod_of_nonneg p0]
      exact ((cg z (p % (A : Int)) r ⟨hz, ⟨m0, m1⟩, ⟨r0, r1⟩⟩).1).symm
    unfold cw_g
    rw [eg, e7]
    rcases q7 with q | q
    · rw [if_pos q, if_pos (Or.inl (by omega))]
    · rw [if_neg (by omega)]
      by_cases y : w 7 (z * 24 + p) = r
      · rw [if_pos y, if_pos (Or.inr y)]
      · rw [if_neg y, if_neg (by omega)]
  have W := w_all hA hR hK hg gv hG
  have B := rwb_rb hC f2 hz (show 1 ≤ w 6 z * (A : Int) ∧ w 6 z * (A : Int) ≤ 24 by omega) f1 R (Int.le_refl _)
  rw [← W] at B
  rw [← f6] at B
  have f8u := fun (_ : Unit) => f8
  clear f8
  rcases B with ⟨b1, b2, b3⟩ | ⟨b1, b2, b3⟩
  · refine ⟨fun _ => ⟨b1, ?_⟩, fun y => absurd b3 y⟩
    rw [f7, b2]
    rfl
  · refine ⟨fun y => by omega, fun y => ?_⟩
    have m : 1 ≤ min (rwb (v 80) (v 81) (v 87 0) (wst A) R).2 1000000 ∧ min (rwb (v 80) (v 81) (v 87 0) (wst A) R).2 1000000 ≤ 1000000 := by omega
    rw [← f7] at m b3
    refine ⟨by omega, by omega, fun p p0 p1 => ?_⟩
    have bd : cw_be A R (w 6 z) (cw_g A R w z) / 1048576 = w' 83 z := by omega
    obtain ⟨r0, rad, code, ⟨o1, o2, o3⟩, gw, pa⟩ := f8u () b1
    have hn : 1 ≤ w 6 z * (A : Int) ∧ w 6 z * (A : Int) ≤ 24 := by omega
    have hN := cw_Nb hA
    have F : ∀ r, 0 ≤ r → r < (R : Int) → v 80 (rm_x 0 r (wst A)) = (rf_F A R (w 6 z * (A : Int)) (wg R v z) (v 87) (w 6 z * (A : Int) - 1).toNat r (wst A)).1 := fun r a b => congrArg Prod.fst (ft_F hC f2 hn.2 f1 (w 6 z * (A : Int) - 1).toNat 0 r (wst A) (by omega) (by omega) ⟨a, b⟩ (by unfold wst; omega))
    rw [st] at o2 o3
    have T := tr_all hA hR hK hg gv hG (r0 := r0) o1 ⟨o2.1, by rw [← F r0 o1.1 o1.2, bd]; exact o2.2⟩ (fun r a b y => o3 r a b ⟨y.1, by rw [F r a (by omega), y.2]; exact bd⟩) p p0 p1
    have q := (gw_rq hC f2 hn f1 o1 gw p.toNat (by omega)).2.1
    rw [T, rp_rq, pa p p0 p1]
    rw [show ((p.toNat : Nat) : Int) = p by omega] at q
    exact q
