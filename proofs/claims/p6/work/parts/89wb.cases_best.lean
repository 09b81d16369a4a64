/-! ===== both systems: best ===== -/
theorem cj_hG {A R : Nat} {gg : ch_G} (hC : ck_Cx gg A R) {w v : ck_W} (hI : rm_I A R w) (hV : cw_IV A R w) (hc : cj_C A R w (w 77)) {z : Int} (hz : 0 ≤ z ∧ z ≤ 5) (f2 : rm_I A R v) (f4 : v 77 = w 77) (f5 : ∀ p, 0 ≤ p → p < w 6 z * (A : Int) → v 87 p = cj_cp A w z p) : ∀ p r, 0 ≤ p → p < w 6 z * (A : Int) → 0 ≤ r → r < (R : Int) → cw_g A R w z p r = if v 87 p < 0 ∨ v 87 p = r then wg R v z p r * 1048576 else -1 := by
  have ar := cs_ar hC
  have cg := hc.2.2.2.2.2.2.1
  have hK := hV.1.2.1 z hz.1 hz.2
  have kA : w 6 z * (A : Int) ≤ 4 * (A : Int) := Int.mul_le_mul_of_nonneg_right hK.2 (by omega)
  have cpv := rm_cp hC f2
  intro p r p0 p1 r0 r1
  have e7 : v 87 p = w 7 (z * 24 + p) := by
    rw [f5 p p0 p1]
    unfold cj_cp
    rw [if_pos (by omega)]
  have q7 := cj_cpv hI hc hz p0 (show p < 4 * (A : Int) by omega)
  have m0 := Int.emod_nonneg p (b := (A : Int)) (by omega)
  have m1 := Int.emod_lt_of_pos p (b := (A : Int)) (by omega)
  have eg : wg R v z p r = w 4 (cs_at A R z (p % (A : Int)) r) := by
    unfold wg rm_gr
    rw [if_pos ⟨⟨p0, r0⟩, r1⟩, cpv.1, f4, Int.tmod_eq_emod_of_nonneg p0]
    exact ((cg z (p % (A : Int)) r ⟨hz, ⟨m0, m1⟩, ⟨r0, r1⟩⟩).1).symm
  unfold cw_g
  rw [eg, e7]
  rcases q7 with q | q
  · rw [if_pos q, if_pos (Or.inl (by omega))]
  · rw [if_neg (by omega)]
    by_cases y : w 7 (z * 24 + p) = r
    · rw [if_pos y, if_pos (Or.inr y)]
    · rw [if_neg y, if_neg (by omega)]
/-- where a slice is sure -/
theorem cj_ws {A R : Nat} {gg : ch_G} (hC : ck_Cx gg A R) {w w' : ck_W} (hJ : cj_J A R w) {z : Int} (hz : 0 ≤ z ∧ z ≤ 5) (h : rm_w2 A R w z (w 77 (10 + z) * A) (cj_cp A w z) w') (h3 : rm_w3 A R w z (w 77 (10 + z) * A) (cj_cp A w z) w') (k : w 59 z ≠ 0) (pos : 0 < w 61 z) : ∀ p, 0 ≤ p → p < w 6 z * (A : Int) → (ck_and (w' 86 (24 * z + p)) (w' 86 (24 * z + p) - 1) = 0 ↔ w 62 (z * 24 + p) = w 63 (z * 24 + p)) := by
  have hA : 3 ≤ A ∧ A ≤ 6 := ⟨hC.2.1, hC.2.2.1⟩
  have ar := cs_ar hC
  have hR : 4 ≤ R ∧ R ≤ 12 := by omega
  have hI := hJ.2.1
  have hV := hJ.1.1
  have hc := hJ.2.2.1
  have ct := hc.2.2.2.2.2.2.2.1 z hz.1 hz.2
  have hK := hV.1.2.1 z hz.1 hz.2
  have gv := cw_gv hC hV.1.2.2 hz
  have l := cj_wl hC hI hV hc hz h
  have zz := (cj_wz hC hJ hz h k).2 pos
  have r := hV.2.2.2.2 z hz.1 hz.2 k
  unfold cw_res at r
  obtain ⟨r1, r2, r3⟩ := r
  have be0 : cw_be A R (w 6 z) (cw_g A R w z) ≠ 0 := fun e => by
    rw [r2, e] at pos
    exact absurd pos (by decide)
  have lb := (l.2 be0).1
  have r4 := r3 be0
  rw [← ct] at h3
  have kA : w 6 z * (A : Int) ≤ 4 * (A : Int) := Int.mul_le_mul_of_nonneg_right hK.2 (by omega)
  have kA1 : 1 * (A : Int) ≤ w 6 z * (A : Int) := Int.mul_le_mul_of_nonneg_right hK.1 (by omega)
  obtain ⟨v, f1, f2, f3, f4, f5, f6, f7⟩ := h3
  have f7' := f7 zz.1
  have st := wst_e hA hI
  have eN : w 76 2 = cw_N A := hI.2.2.1
  rw [st] at f6
  rw [st, eN] at f7'
  have hg : ∀ p r, 0 ≤ wg R v z p r := fun p r => (wg_0 hC f2 hz p r).1
  have hG := cj_hG hC hI hV hc hz f2 f4 f5
  generalize hn0 : w 6 z * (A : Int) = n at *
  have hn : 1 ≤ n ∧ n ≤ 24 := by omega
  have hN := cw_Nb hA
  have ws0 : 0 ≤ wst A ∧ wst A < cw_N A := by unfold wst; omega
  have F : ∀ r, 0 ≤ r → r < (R : Int) → v 80 (rm_x 0 r (wst A)) = (rf_F A R n (wg R v z) (v 87) (n - 1).toNat r (wst A)).1 := fun r a b => congrArg Prod.fst (ft_F hC f2 hn.2 f1 (n - 1).toNat 0 r (wst A) (by omega) (by omega) ⟨a, b⟩ ws0)
  have init : ∃ r, (0 ≤ r ∧ r < (R : Int)) ∧ ((v 87 0 < 0 ∨ v 87 0 = r) ∧ (rf_F A R n (wg R v z) (v 87) (n - 1).toNat r (wst A)).1 = cw_be A R (w 6 z) (cw_g A R w z) / 1048576) := by
    obtain ⟨r, a, b, e⟩ := f6 zz.1
    exact ⟨r, a, b, by rw [← F r a.1 a.2, e, lb]⟩
  obtain ⟨ra, ha1, ha2⟩ := su_min R init
  obtain ⟨rb, hb1, hb2⟩ := su_max R init
  have hM := fun r a b pk => su_hM hA hR hK hg gv (by rw [hn0]; exact hG) r a b pk
  have T1 := fun p a b => tr_all hA hR hK hg gv (by rw [hn0]; exact hG) (r0 := ra) ha1.1 (by rw [hn0]; exact ha1.2) (by rw [hn0]; exact ha2) p a b
  have T2 := fun p a b => trE_all hA hR hK hg gv (by rw [hn0]; exact hG) (r0 := rb) hb1.1 (by rw [hn0]; exact hb1.2) (by rw [hn0]; exact hb2) p a b
  rw [hn0] at hM T1 T2
  have B0 : 0 ≤ cw_be A R (w 6 z) (cw_g A R w z) / 1048576 := by rw [← lb]; exact zz.1
  rw [lb] at f7'
  generalize cw_be A R (w 6 z) (cw_g A R w z) / 1048576 = B at *
  obtain ⟨bL, bG, bet⟩ := sp_su hA hn.1 hg (pn := v 87) (c := wst A) (B := B) ws0.1 B0 hM ⟨⟨ha1.1, ha1.2⟩, ha2⟩ ⟨⟨hb1.1, hb1.2⟩, hb2⟩
  obtain ⟨m1, m2⟩ := su_mr hC f2 hn f1 B0 (I := fun r c => c = wst A ∧ (v 87 0 < 0 ∨ v 87 0 = r) ∧ v 80 (rm_x 0 r (wst A)) = B) (fun _ _ _ _ => Iff.rfl)
  intro p p0 p1
  have ep : ((p.toNat : Nat) : Int) = p := by omega
  have q := f7' p p0 p1
  obtain ⟨x1, x2, x3⟩ := m1 _ bL p.toNat (by omega)
  obtain ⟨y1, y2, y3⟩ := m1 _ bG p.toNat (by omega)
  rw [ep] at x1 x3 y1 y3
  try dsimp only at x1 y1
  have q4 := r4 p p0 p1
  rw [q4.1, q4.2, T1 p p0 p1, T2 p p0 p1]
  rw [su_one (by omega) q x1.1 x1.2 ⟨_, x2, x3⟩]
  constructor
  · intro a
    exact (a _ y1.1 y1.2 ⟨_, y2, y3⟩).symm
  · rintro a r r0 r1 ⟨c, hc, m⟩
    obtain ⟨s, hs, es⟩ := m2 p.toNat r c (by omega) r0 r1 hc.1 hc.2 m
    have b := bet s hs p p0 p1
    rw [ep] at es
    omega
theorem J2_best {g : ch_G} {A R : Nat} (hC : ck_Cx g A R) {w : ck_W} {P : Int → Int → ck_W → Prop} (hJ : cj_J A R w) {a1 a2 : Int} (h2 : ck_i a2) (H : ∀ v w2, cj_J A R w2 → P v v w2) : ck_CI (ch_C g A R) 11 mX11_best [.inr (.inr 0), .inl a1, .inl a2] w (fun v w1 => ck_CI (ch_C g A R) 11 mX12_best [.inr (.inr 76), .inl a1, .inl a2] w1 (fun v2 w2 => P v v2 w2)) := by
  refine C_best (d := 5) hC hJ.1.1 (fun rg w1 q i _ k59 k61 => ⟨_, rfl, fun _ => ?_⟩) (fun w1 q i _ bad => ⟨_, rfl, fun _ => ?_⟩) h2
  · have J1 : cj_J A R w1 := cj_quiet hC hJ (cs_Q_q q) i rm_q_rf
    have ct := J1.2.2.1.2.2.2.2.2.2.2.1 a1 rg.1 rg.2
    refine M2_best (d := 5) hC J1.2.1 (cj_cps J1) (fun _ va w2 hq W2 W3 _ v ev => ⟨_, rfl, fun _ => ?_⟩) (fun w2 hq bad => ⟨_, rfl, fun _ => ?_⟩)
    · have J2 := cj_quiet hC J1 (fun _ _ => rfl) i hq
      have zz := (cj_wz hC J1 rg W2 k59).2 k61
      have ws := cj_ws hC J1 rg W2 W3 k59 k61
      rw [← ct] at va
      have ar := cs_ar hC
      have kA : w1 6 a1 * (A : Int) ≤ 4 * (A : Int) := Int.mul_le_mul_of_nonneg_right (J1.1.1.1.2.1 a1 rg.1 rg.2).2 (by omega)
      have e : (if a2 = 0 then w1 60 a1 else if a2 = 1 then w1 61 a1 else if 100 ≤ a2 ∧ a2 < 100 + w1 6 a1 * (A : Int) then w1 62 (a1 * 24 + (a2 - 100)) else if 200 ≤ a2 ∧ a2 < 200 + w1 6 a1 * (A : Int) then (if w1 62 (a1 * 24 + (a2 - 200)) = w1 63 (a1 * 24 + (a2 - 200)) then 1 else 0) else -1) = v := by
        rw [ev]
        by_cases z0 : a2 = 0
        · rw [if_pos z0, if_pos z0]; exact zz.2.1.symm
        · rw [if_neg z0, if_neg z0]
          by_cases z1 : a2 = 1
          · rw [if_pos z1, if_pos z1]; exact zz.2.2.1.symm
          · rw [if_neg z1, if_neg z1]
            by_cases z2 : a2 < 200
            · rw [if_pos (show 100 ≤ a2 ∧ a2 < 100 + w1 6 a1 * (A : Int) by omega), if_pos z2]
              exact (zz.2.2.2 (a2 - 100) (by omega) (by omega)).symm
            · rw [if_neg (show ¬ (100 ≤ a2 ∧ a2 < 100 + w1 6 a1 * (A : Int)) by omega), if_pos (show 200 ≤ a2 ∧ a2 < 200 + w1 6 a1 * (A : Int) by omega), if_neg z2]
              have y := ws (a2 - 200) (by omega) (by omega)
              by_cases x : w1 62 (a1 * 24 + (a2 - 200)) = w1 63 (a1 * 24 + (a2 - 200))
              · rw [if_pos x, if_pos (y.mpr x)]
              · rw [if_neg x, if_neg (fun t => x (y.mp t))]
      rw [e]
      exact H _ w2 J2
    · have J2 := cj_quiet hC J1 (fun _ _ => rfl) i hq
      by_cases va : (0 ≤ a2 ∧ a2 ≤ 1) ∨ (100 ≤ a2 ∧ a2 < 100 + w1 77 (10 + a1) * (A : Int)) ∨ (200 ≤ a2 ∧ a2 < 200 + w1 77 (10 + a1) * (A : Int))
      · exfalso
        obtain ⟨W2, neg⟩ := bad rg va
        have zz := (cj_wz hC J1 rg W2 k59).2 k61
        omega
      · rw [← ct] at va
        rw [if_neg (show ¬ a2 = 0 by omega), if_neg (show ¬ a2 = 1 by omega), if_neg (show ¬ (100 ≤ a2 ∧ a2 < 100 + w1 6 a1 * (A : Int)) by omega), if_neg (show ¬ (200 ≤ a2 ∧ a2 < 200 + w1 6 a1 * (A : Int)) by omega)]
        exact H _ w2 J2
  · have J1 : cj_J A R w1 := cj_quiet hC hJ (cs_Q_q q) i rm_q_rf
    refine M2_best (d := 5) hC J1.2.1 (cj_cps J1) (fun rg _ w2 hq W2 _ pos v _ => ?_) (fun w2 hq _ => ⟨_, rfl, fun _ => H _ w2 (cj_quiet hC J1 (fun _ _ => rfl) i hq)⟩)
    exfalso
    have b := bad rg
    have zz := (cj_wz hC J1 rg W2 b.1).1 b.2
    omega
