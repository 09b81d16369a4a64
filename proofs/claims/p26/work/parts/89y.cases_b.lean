/-! ===== both systems: boxes ===== -/
theorem cb_or_e {f g : Int → Int → Int} (h : ∀ i j : Int, 0 ≤ i → i ≤ 2 → 0 ≤ j → j ≤ 2 → f i j = g i j) : ∀ n : Nat, n ≤ 9 → cb_or f n = cb_or g n
  | 0, _ => rfl
  | n + 1, hn => by
    rw [cb_or, cb_or, cb_or_e h n (by omega), h _ _ (by omega) (by omega) (by omega) (by omega)]
theorem cj_W {A R : Nat} {w w' u : ck_W} (e6 : w' 76 = w 76) (e7 : w' 77 = w 77) (e : w' 7 = w 7) (W : ∀ z, 0 ≤ z → z ≤ 5 → rm_w2 A R w' z (w' 77 (10 + z) * A) (cj_cp A w' z) u) : ∀ z, 0 ≤ z → z ≤ 5 → rm_w2 A R w z (w 77 (10 + z) * A) (cj_cp A w z) u := fun z a b => by
  have h := W z a b
  have ec : cj_cp A w' = cj_cp A w := by
    funext y p
    unfold cj_cp
    rw [e]
  rw [e7, ec] at h
  exact rm_w2_c e6 e7 h
/-- ink at a place: both say the same -/
theorem cj_ik {A R : Nat} {g : ch_G} (hC : ck_Cx g A R) {w : ck_W} (hJ : cj_J A R w) {b cd : Int → Int} {r z p : Int} {n : Nat} (hz : 0 ≤ z ∧ z ≤ 5) (hp : 0 ≤ p ∧ p < w 6 z * (A : Int)) (hb : ∀ q, 0 ≤ q → q < w 6 z * (A : Int) → b (24 * z + q) = w 62 (z * 24 + q)) (hn : n = (w 12 r).toNat) (hd : cd = fun k => w 11 (r * 300 + k)) : cv_ij A R w r z p (fun _ => 0) = rs_ik A R (w 77) b cd n z p := by
  have vv := cj_vv hC hJ hz hp hb
  have e : cv_rn (cv_v A R w z p) (w 11) (w 12 r).toNat (r * 300) ((0, 0), (0, fun _ => 0)) = cv_rn (rs_v A R (w 77) b z p) cd n 0 ((0, 0), (0, fun _ => 0)) := by
    rw [cv_rn_z, cv_rn_v (val' := rs_v A R (w 77) b z p) (fun n _ => vv n), hn, hd]
  unfold cv_ij rs_ik cv_an
  rw [e]
/-- a box is one for both -/
theorem cj_bx {A R : Nat} {g : ch_G} (hC : ck_Cx g A R) {w u : ck_W} (hJ : cj_J A R w) {a2 a3 : Int} (e76 : u 76 = w 76) (e77 : u 77 = w 77) (h59 : 0 ≤ a2 ∧ a2 ≤ 3 → ∀ z, a2 ≤ z → z ≤ a2 + 2 → w 59 z ≠ 0) (W : ∀ z, 0 ≤ z → z ≤ 5 → rm_w2 A R w z (w 77 (10 + z) * A) (cj_cp A w z) u) : cb_is A w a2 a3 ↔ rm_bx u a2 a3 := by
  have ct := hJ.2.2.1.2.2.2.2.2.2.2.1
  have eA : w 76 0 = (A : Int) := hJ.2.1.1
  have hV := hJ.1.1
  constructor
  · intro ⟨z0, al⟩
    have s0 := (al 0 0 (by omega) (by omega) (by omega) (by omega)).1.2.1
    refine ⟨z0, by omega, fun y y0 y1 => ?_⟩
    have s := al (y - a2) 2 (by omega) (by omega) (by omega) (by omega)
    rw [show a2 + (y - a2) = y by omega] at s
    have s1 := s.1.2
    have hz : 0 ≤ y ∧ y ≤ 5 := s.1.1
    have n61 := hV.2.2.2.1 y hz.1 hz.2
    have s2 := s.2
    have pos : 0 < w 61 y := by omega
    have L := ((cj_wz hC hJ hz (W y hz.1 hz.2) (h59 z0 y y0 (by omega))).2 pos).1
    unfold rm_th
    rw [e77, e76, eA, ← ct y hz.1 hz.2]
    exact ⟨⟨by omega, by omega⟩, by omega⟩
  · intro ⟨z0, p0, al⟩
    refine ⟨z0, fun i j i0 i1 j0 j1 => ?_⟩
    have hz : 0 ≤ a2 + i ∧ a2 + i ≤ 5 := by omega
    have t := al (a2 + i) (by omega) (by omega)
    unfold rm_th at t
    rw [e77, e76, eA, ← ct _ hz.1 hz.2] at t
    obtain ⟨t1, t2⟩ := t
    have k := (cj_wz hC hJ hz (W _ hz.1 hz.2) (h59 z0 _ (by omega) (by omega))).1
    refine ⟨⟨hz, by omega, by omega⟩, fun e => t2 (k (by omega))⟩
theorem cj_lc {A R : Nat} {w : ck_W} (hJ : cj_J A R w) {k s : Int} (hk : 0 ≤ k ∧ k < w 77 4) : cs_lc w k s = w 77 (1270 + 2 * k + 1) * rs_ft (w 77) s k := by
  obtain ⟨_, _, _, _, _, _, _, _, _, _, xl, xw, _⟩ := hJ.2.2.1
  have c := xl k hk.1 hk.2
  unfold cs_lc rs_ft
  rw [c.1, c.2, xw.1.1, xw.1.2, kb_xorc (w 77 (1270 + 2 * k)) s]
theorem cj_bl {A R : Nat} {w : ck_W} (hJ : cj_J A R w) {s : Int} : ∀ (n : Nat) (k : Int) (x : Int × Int), 0 ≤ k → k + n ≤ w 77 4 → cs_bl w s n k x = rs_bl (w 77) s n k x
  | 0, _, _, _, _ => rfl
  | n + 1, k, x, h0, h1 => by
    rw [cs_bl, rs_bl, cj_lc hJ ⟨h0, by omega⟩]
    exact cj_bl hJ n (k + 1) _ (by omega) (by omega)
theorem cj_la {A R : Nat} {w : ck_W} (hJ : cj_J A R w) {s : Int} : ∀ (n : Nat) (k x : Int), 0 ≤ k → k + n ≤ w 77 4 → cs_la w s n k x = rs_la (w 77) s n k x
  | 0, _, _, _, _ => rfl
  | n + 1, k, x, h0, h1 => by
    rw [cs_la, rs_la, cj_lc hJ ⟨h0, by omega⟩]
    exact cj_la hJ n (k + 1) _ (by omega) (by omega)
theorem cs_lap {w : ck_W} (hX : cs_X w) {s : Int} (hs : 0 ≤ s ∧ s < 512) : ∀ (n : Nat) (k x : Int), 0 ≤ k → k + n ≤ w 15 2 → x + n ≤ cs_la w s n k x
  | 0, _, x, _, _ => by rw [cs_la]; omega
  | n + 1, k, x, h0, h1 => by
    have p := cs_lcp hX.1 hX.2.1 hX.2.2.1 (k := k) ⟨h0, by omega⟩ hs
    have i := cs_lap hX hs n (k + 1) (x + cs_lc w k s) (by omega) (by omega)
    rw [cs_la]
    omega
theorem cj_an {A R : Nat} {w : ck_W} (hJ : cj_J A R w) {v what : Int} (hv : 0 ≤ v ∧ v < 512) (h4 : 1 ≤ w 77 4) (hw : (0 ≤ what ∧ what ≤ 1) ∨ (100 ≤ what ∧ what < 100 + w 77 4)) : cb_an w v what = rs_an (w 77) v what := by
  have c4 : w 15 2 = w 77 4 := hJ.2.2.1.2.2.2.2.1
  have hX : cs_X w := hJ.1.2.1.2.2.2.2.1
  have bl := cj_bl hJ (s := v) (w 77 4).toNat 0 (-1, 0) (by omega) (by omega)
  have la := cj_la hJ (s := v) (w 77 4).toNat 0 0 (by omega) (by omega)
  have one := cs_bl_one hX.1 hX.2.1 hX.2.2.1 hv (by omega)
  have lp := cs_lap hX hv (w 77 4).toNat 0 0 (by omega) (by omega)
  rw [c4, bl] at one
  unfold cb_an rs_an
  rw [c4]
  by_cases z : what = 0
  · rw [if_pos z, if_pos z, bl]
  rw [if_neg z, if_neg z]
  by_cases z2 : what = 1
  · rw [if_pos z2, if_pos z2, bl, cj_lc hJ one]
    unfold cs_th rs_od
    rw [if_neg (by omega), la, Int.mul_comm _ 1000, ← Int.mul_assoc]
  rw [if_neg z2, if_neg z2, if_pos (by omega)]
  obtain ⟨_, _, _, _, _, _, _, _, _, _, xl, _, _⟩ := hJ.2.2.1
  rw [(xl (what - 100) (by omega) (by omega)).1, kb_xorc]
theorem J2_box {g : ch_G} {A R : Nat} (hC : ck_Cx g A R) {w : ck_W} {P : Int → Int → ck_W → Prop} (hJ : cj_J A R w) {a1 a2 a3 a4 : Int} (h3 : ck_i a3) (h4 : ck_i a4) (H : ∀ v w2, cj_J A R w2 → P v v w2) : ck_CI (ch_C g A R) 11 mX11_box [.inr (.inr 0), .inl a1, .inl a2, .inl a3, .inl a4] w (fun v w1 => ck_CI (ch_C g A R) 11 mX12_box [.inr (.inr 76), .inl a1, .inl a2, .inl a3, .inl a4] w1 (fun v2 w2 => P v v2 w2)) := by
  obtain ⟨hI, hN, hK, hZ⟩ := hJ.1
  obtain ⟨n1, ⟨n2, n3, n4⟩, n5, ⟨n6, n7⟩, n8, n9⟩ := hN
  have er := hJ.2.2.2.2.2.1
  have c4 : w 15 2 = w 77 4 := hJ.2.2.1.2.2.2.2.1
  refine C_box (d := 4) hC hI n4 n6 n8 h3 h4 (fun rok l1 v w1 w' q i k59 is Q i' ex => ⟨_, rfl, fun _ => ?_⟩) (fun w' w1 Q i' q i k59 nok => ⟨_, rfl, fun _ => ?_⟩)
  · have J1 : cj_J A R w1 := cj_quiet hC hJ (cs_Q_q q) i rm_q_rf
    have J2 : cj_J A R w' := cj_quiet hC hJ Q i' rm_q_rf
    obtain ⟨e, hx, h12⟩ := hJ.2.2.2.2.2.2.2.1 a1 rok.1 (by rw [← er.1]; exact rok.2)
    have e79 : w' 79 = w 79 := Q 79 (by omega)
    have e77 : w' 77 = w 77 := Q 77 (by omega)
    have f76 : w' 76 = w1 76 := (Q 76 (by omega)).trans (q 76 (by omega)).symm
    have f77 : w' 77 = w1 77 := e77.trans (q 77 (by omega)).symm
    have f7 : w' 7 = w1 7 := (Q 7 (by omega)).trans (q 7 (by omega)).symm
    refine M2_box (d := 4) (e := e) (cd := fun k => w 11 (a1 * 300 + k)) hC J2.2.1 (cj_cps J2) (fun _ => by rw [e79]; exact hx) (fun cnd u w3 f W bx hq vb => ⟨_, rfl, fun _ => ?_⟩) (fun w3 hq bad => ⟨_, rfl, fun _ => ?_⟩)
    · have W1 := cj_W f76 f77 f7 W
      have E : v = cb_or (fun i j => rs_ik A R (w' 77) (u 85) (fun k => w 11 (a1 * 300 + k)) (w' 79 (800 * a1) + e).toNat (a2 + i) (a3 + j)) 9 := by
        rw [ex (cv_J_all A R w1)]
        refine cb_or_e (fun i j i0 i1 j0 j1 => ?_) 9 (by decide)
        have s := is.2 i j i0 i1 j0 j1
        have hz := s.1.1
        have n61 := J1.1.1.2.2.2.1 (a2 + i) hz.1 hz.2
        have s2 := s.2
        have L := (cj_wz hC J1 hz (W1 _ hz.1 hz.2) (k59 _ (by omega) (by omega))).2 (by omega)
        rw [f77]
        exact cj_ik hC J1 hz s.1.2 L.2.2.2 (by rw [q 12 (by decide), h12, e79]) (by rw [q 11 (by decide)])
      rw [← E] at vb ⊢
      rw [cj_an hJ vb (by omega) (by rw [e77] at cnd; exact cnd.2.1), e77]
      exact H _ w3 (cj_quiet hC J2 (fun _ _ => rfl) i' hq)
    · have K := H (-1) w3 (cj_quiet hC J2 (fun _ _ => rfl) i' hq)
      by_cases cnd : ((0 ≤ a1 ∧ a1 < w' 77 0) ∧ ((0 ≤ a4 ∧ a4 ≤ 1) ∨ (100 ≤ a4 ∧ a4 < 100 + w' 77 4)) ∧ 1 ≤ w' 77 4)
      · obtain ⟨u, f, W, nb⟩ := bad cnd
        refine absurd ((cj_bx hC J1 ?_ ?_ (fun _ => k59) (cj_W f76 f77 f7 W)).1 is) nb
        · rw [← f76]; exact f 76 (by decide) (by decide) (by decide) (by decide) (by decide) (by decide) (by decide) (by decide)
        · rw [← f77]; exact f 77 (by decide) (by decide) (by decide) (by decide) (by decide) (by decide) (by decide) (by decide)
      · rw [e77] at cnd
        have er1 := er.1
        have E : cb_an w v a4 = -1 := by
          unfold cb_an
          rw [if_neg (by omega), if_neg (by omega), if_neg (by omega)]
        rw [E]
        exact K
  · have J1 : cj_J A R w1 := cj_quiet hC hJ (cs_Q_q q) i rm_q_rf
    have J2 : cj_J A R w' := cj_quiet hC hJ Q i' rm_q_rf
    have e79 : w' 79 = w 79 := Q 79 (by omega)
    have e77 : w' 77 = w 77 := Q 77 (by omega)
    have f76 : w' 76 = w1 76 := (Q 76 (by omega)).trans (q 76 (by omega)).symm
    have f77 : w' 77 = w1 77 := e77.trans (q 77 (by omega)).symm
    have f7 : w' 7 = w1 7 := (Q 7 (by omega)).trans (q 7 (by omega)).symm
    by_cases rok : 0 ≤ a1 ∧ a1 < w 77 0
    · obtain ⟨e, hx, h12⟩ := hJ.2.2.2.2.2.2.2.1 a1 rok.1 rok.2
      refine M2_box (d := 4) (e := e) (cd := fun k => w 11 (a1 * 300 + k)) hC J2.2.1 (cj_cps J2) (fun _ => by rw [e79]; exact hx) (fun cnd u w3 f W bx hq vb => ⟨_, rfl, fun _ => ?_⟩) (fun w3 hq _ => ⟨_, rfl, fun _ => H _ w3 (cj_quiet hC J2 (fun _ _ => rfl) i' hq)⟩)
      refine absurd ⟨⟨rok.1, by rw [er.1]; exact rok.2⟩, by rw [c4, ← e77]; exact cnd.2.2, (cj_bx hC J1 ?_ ?_ k59 (cj_W f76 f77 f7 W)).2 bx⟩ nok
      · rw [← f76]; exact f 76 (by decide) (by decide) (by decide) (by decide) (by decide) (by decide) (by decide) (by decide)
      · rw [← f77]; exact f 77 (by decide) (by decide) (by decide) (by decide) (by decide) (by decide) (by decide) (by decide)
    · refine M2_box (d := 4) (e := 0) (cd := fun _ => 0) hC J2.2.1 (cj_cps J2) (fun x => absurd (by rw [e77] at x; exact x) rok) (fun cnd => absurd (by have := cnd.1; rw [e77] at this; exact this) rok) (fun w3 hq _ => ⟨_, rfl, fun _ => H _ w3 (cj_quiet hC J2 (fun _ _ => rfl) i' hq)⟩)
