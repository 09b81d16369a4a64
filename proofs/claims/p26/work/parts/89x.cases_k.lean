/-! ===== both systems: ink ===== -/
/-- the names say the same -/
theorem cj_vv {A R : Nat} {g : ch_G} (hC : ck_Cx g A R) {w : ck_W} (hJ : cj_J A R w) {b : Int → Int} {z p : Int} (hz : 0 ≤ z ∧ z ≤ 5) (hp : 0 ≤ p ∧ p < w 6 z * (A : Int)) (hb : ∀ q, 0 ≤ q → q < w 6 z * (A : Int) → b (24 * z + q) = w 62 (z * 24 + q)) (n : Int) : cv_v A R w z p n = rs_v A R (w 77) b z p n := by
  have c := cs_ar hC
  have cg := hJ.2.2.1.2.2.2.2.2.2.1
  have hV := hJ.1.1
  have hK := hV.1.2.1 z hz.1 hz.2
  have r62 := hV.2.2.1
  have k4 : w 6 z * (A : Int) ≤ 24 := by
    have := Int.mul_le_mul_of_nonneg_right hK.2 (show (0 : Int) ≤ (A : Int) by omega)
    omega
  have tm : ∀ q : Int, 0 ≤ q → q.tmod (A : Int) = q % (A : Int) := fun q q0 => Int.tmod_eq_emod_of_nonneg q0
  have td : p.tdiv (A : Int) = p / (A : Int) := Int.tdiv_eq_ediv_of_nonneg hp.1
  have gg : ∀ a r : Int, 0 ≤ a → a < (A : Int) → cv_g A R w z a r = rs_g R (w 77) z a r := fun a r a0 a1 => by
    unfold cv_g rs_g
    by_cases q : 0 ≤ r ∧ r < (R : Int)
    · rw [if_pos q, if_pos (by omega)]
      exact (cg z a r ⟨hz, ⟨a0, a1⟩, q⟩).1
    · rw [if_neg q, if_neg (by omega)]
  have kk : ∀ q : Int, 0 ≤ q → q < w 6 z * (A : Int) → cv_k A R w z q = rs_k A (w 77) b z q := fun q q0 q1 => by
    have m0 := Int.emod_nonneg q (b := (A : Int)) (by omega)
    have m1 := Int.emod_lt_of_pos q (b := (A : Int)) (by omega)
    have r := r62 (z * 24 + q) (by omega) (by omega)
    unfold cv_k rs_k
    rw [tm q q0, hb q q0 q1]
    exact (cg z (q % (A : Int)) (w 62 (z * 24 + q)) ⟨hz, ⟨m0, m1⟩, r⟩).2
  have m0 := Int.emod_nonneg p (b := (A : Int)) (by omega)
  have m1 := Int.emod_lt_of_pos p (b := (A : Int)) (by omega)
  unfold cv_v rs_v
  rw [tm p hp.1, td, hb p hp.1 hp.2, gg _ _ m0 m1, gg _ _ m0 m1, gg _ _ m0 m1, kk p hp.1 hp.2]
  by_cases q : p = 0
  · rw [if_pos q, if_pos (show p ≤ 0 by omega)]
  · rw [if_neg q, if_neg (show ¬ p ≤ 0 by omega), kk (p - 1) (by omega) (by omega)]
theorem J2_ink {g : ch_G} {A R : Nat} (hC : ck_Cx g A R) {w : ck_W} {P : Int → Int → ck_W → Prop} (hJ : cj_J A R w) {a1 a2 a3 : Int} (H : ∀ v w2, cj_J A R w2 → P v v w2) : ck_CI (ch_C g A R) 11 mX11_ink [.inr (.inr 0), .inl a1, .inl a2, .inl a3] w (fun v w1 => ck_CI (ch_C g A R) 11 mX12_ink [.inr (.inr 76), .inl a1, .inl a2, .inl a3] w1 (fun v2 w2 => P v v2 w2)) := by
  obtain ⟨hI, hN, hK, hZ⟩ := hJ.1
  obtain ⟨n1, ⟨n2, n3, n4⟩, n5, ⟨n6, n7⟩, n8, n9⟩ := hN
  have er := hJ.2.2.2.2.2.1
  have eA := hJ.2.1.1
  have ct := hJ.2.2.1.2.2.2.2.2.2.2.1
  have rw2 : ∀ u u' z n cp (x : ck_W), u 76 = u' 76 → u 77 = u' 77 → rm_w2 A R u z n cp x → rm_w2 A R u' z n cp x := fun u u' z n cp x e6 e7 h => by
    unfold rm_w2 at h ⊢
    rw [← e6, ← e7]
    exact h
  refine C_ink (d := 5) hC hI n4 n6 (fun rok has w1 w' q i k59 k61 Q i' => ⟨_, rfl, fun _ => ?_⟩) (fun w' Q i' bad => ⟨_, rfl, fun _ => ?_⟩)
  · have J1 : cj_J A R w1 := cj_quiet hC hJ (cs_Q_q q) i rm_q_rf
    have J2 : cj_J A R w' := cj_quiet hC hJ Q i' rm_q_rf
    obtain ⟨e, hx, h12⟩ := hJ.2.2.2.2.2.2.2.1 a1 rok.1 (by rw [← er.1]; exact rok.2)
    have e79 : w' 79 = w 79 := Q 79 (by omega)
    have e77 : w' 77 = w 77 := Q 77 (by omega)
    have f76 : w' 76 = w1 76 := (Q 76 (by omega)).trans (q 76 (by omega)).symm
    have f77 : w' 77 = w1 77 := e77.trans (q 77 (by omega)).symm
    have pos : 0 < w1 61 a2 := by
      have := i.2.2.2.1 a2 has.1.1 has.1.2
      omega
    have pl : 0 ≤ a3 ∧ a3 < w1 6 a2 * (A : Int) := by rw [q 6 (by decide)]; exact has.2
    have cpe : cj_cp A w' = cj_cp A w1 := by
      funext z p
      unfold cj_cp
      rw [Q 7 (by omega), q 7 (by omega)]
    refine M2_ink (d := 5) (e := e) (cd := fun k => w 11 (a1 * 300 + k)) (j0 := w1 71) hC J2.2.1 (cj_cps J2) (fun _ => by rw [e79]; exact hx) (fun _ z5 _ w2 w3 W f83 hq => ⟨_, rfl, fun _ => ?_⟩) (fun w3 hq bad => ⟨_, rfl, fun _ => ?_⟩)
    · have W1 : rm_w2 A R w1 a2 (w1 77 (10 + a2) * A) (cj_cp A w1 a2) w2 := by
        rw [← f77, ← cpe]
        exact rw2 w' w1 _ _ _ _ f76 f77 W
      have L := (cj_wz hC J1 z5 W1 k59).2 pos
      have vv := cj_vv hC J1 z5 pl L.2.2.2
      have E : cv_ik A R w1 a1 a2 a3 = cv_an (cv_rn (rs_v A R (w' 77) (w2 85) a2 a3) (fun k => w 11 (a1 * 300 + k)) (w' 79 (800 * a1) + e).toNat 0 ((0, 0), (0, w1 71))) := by
        unfold cv_ik
        rw [cv_rn_z, cv_rn_v (val' := rs_v A R (w1 77) (w2 85) a2 a3) (fun n _ => vv n), q 11 (by decide), q 12 (by decide), h12, e79, f77]
        rfl
      rw [E]
      exact H _ w3 (cj_quiet hC J2 (fun _ _ => rfl) i' hq)
    · obtain ⟨w2, W, no⟩ := bad (by rw [e77, ← er.1]; exact rok) has.1
      have W1 : rm_w2 A R w1 a2 (w1 77 (10 + a2) * A) (cj_cp A w1 a2) w2 := by
        rw [← f77, ← cpe]
        exact rw2 w' w1 _ _ _ _ f76 f77 W
      have L := (cj_wz hC J1 has.1 W1 k59).2 pos
      refine absurd ⟨⟨has.2.1, ?_⟩, L.1⟩ no
      rw [e77, ← ct a2 has.1.1 has.1.2]
      exact has.2.2
  · have J2 : cj_J A R w' := cj_quiet hC hJ Q i' rm_q_rf
    have e79 : w' 79 = w 79 := Q 79 (by omega)
    have e77 : w' 77 = w 77 := Q 77 (by omega)
    by_cases rok : 0 ≤ a1 ∧ a1 < w 77 0
    · obtain ⟨e, hx, h12⟩ := hJ.2.2.2.2.2.2.2.1 a1 rok.1 rok.2
      refine M2_ink (d := 5) (e := e) (cd := fun k => w 11 (a1 * 300 + k)) (j0 := w 71) hC J2.2.1 (cj_cps J2) (fun _ => by rw [e79]; exact hx) (fun _ z5 p5 w2 w3 W f83 hq => ⟨_, rfl, fun _ => ?_⟩) (fun w3 hq _ => ⟨_, rfl, fun _ => H _ w3 (cj_quiet hC J2 (fun _ _ => rfl) i' hq)⟩)
      have has : cs_has A w a2 a3 := ⟨z5, p5.1, by rw [e77, ← ct a2 z5.1 z5.2] at p5; exact p5.2⟩
      have b := bad ⟨rok.1, by rw [er.1]; exact rok.2⟩ has
      have L := (cj_wz hC J2 z5 W b.1).1 (by omega)
      omega
    · refine M2_ink (d := 5) (e := 0) (cd := fun _ => 0) (j0 := w 71) hC J2.2.1 (cj_cps J2) (fun x => absurd (by rw [e77] at x; exact x) rok) (fun x => absurd (by rw [e77] at x; exact x) rok) (fun w3 hq _ => ⟨_, rfl, fun _ => H _ w3 (cj_quiet hC J2 (fun _ _ => rfl) i' hq)⟩)
