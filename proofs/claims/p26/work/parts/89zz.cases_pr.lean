/-! ===== both systems: what may be printed ===== -/
theorem cs_bl_c {w u : ck_W} (e15 : u 15 = w 15) (e16 : u 16 = w 16) (e17 : u 17 = w 17) {s : Int} : ∀ (n : Nat) (k : Int) (x : Int × Int), cs_bl u s n k x = cs_bl w s n k x
  | 0, _, _ => rfl
  | n + 1, k, x => by
    have e : cs_lc u k s = cs_lc w k s := by
      unfold cs_lc
      rw [e15, e16, e17]
    rw [cs_bl, cs_bl, e, cs_bl_c e15 e16 e17 n]
/-- whether a bit at a place is of a group that the reader learnt from -/
theorem cj_bo {A R : Nat} {g : ch_G} (hC : ck_Cx g A R) {w u : ck_W} (hJ : cj_J A R w) (hu : ∀ k, k < 70 → u k = w k) {r s q : Int} (rok : 0 ≤ r ∧ r < w 77 0) (pl : cs_pl A s q) : cs_bo u r s q 1 = 0 ↔ ¬ ∃ k, (0 ≤ k ∧ k < w 77 3) ∧ w 77 (1010 + 4 * k) = s ∧ w 77 (1010 + 4 * k + 1) = q ∧ ck_and (ck_shr (w 77 (1260 + r)) (w 77 (1010 + 4 * k + 3))) 1 = 1 := by
  have ar := cs_ar hC
  have f0 := rm_c0 hJ.2.1.2.2.2.1
  have er := hJ.2.2.2.2.2.1
  have cb := hJ.2.2.1.2.1
  have e13 : u 13 r = w 77 (1260 + r) := by rw [hu 13 (by decide)]; exact er.2 r rok.1 rok.2
  have e10 : u 10 3 = w 77 0 := by rw [hu 10 (by decide)]; exact er.1
  have pl2 := pl
  unfold cs_pl at pl2
  have ebt : cs_bt u s q = w 14 (s * 24 + q) := by
    unfold cs_bt
    rw [if_pos (by omega), hu 14 (by decide)]
  have grp : ∀ k, 0 ≤ k → k < w 77 3 → w 77 (1010 + 4 * k) = s → w 77 (1010 + 4 * k + 1) = q → ¬ w 14 (s * 24 + q) = -1 ∧ (w 14 (s * 24 + q)).tdiv 2 = w 77 (1010 + 4 * k + 3) := fun k k0 k1 a b => by
    have x := (cb.2.2.1 k k0 k1).2
    have b2 := rm_bit2 hJ.2.1.2.2.2.1 (k := k) k0 (by omega)
    have b3 := rm_bit3 hJ.2.1.2.2.2.1 (k := k) k0 (by omega)
    rw [a, b] at x
    rw [x]
    refine ⟨by omega, ?_⟩
    rw [Int.tdiv_eq_ediv_of_nonneg (by omega)]
    omega
  unfold cs_bo
  rw [ebt, e10, e13]
  constructor
  · rintro h ⟨k, hk, a, b, l⟩
    have x := grp k hk.1 hk.2 a b
    rw [if_neg x.1, if_neg (fun y => y rok), x.2, if_pos l, if_pos rfl] at h
    exact absurd h (by decide)
  · intro h
    by_cases z : w 14 (s * 24 + q) = -1
    · rw [if_pos z]
    · rw [if_neg z, if_neg (fun y => y rok)]
      have nb : ¬ rm_noBit (w 77) (w 77 3) s q := fun y => z ((cb.2.1 s q pl).mpr y)
      have ex : ∃ k, (0 ≤ k ∧ k < w 77 3) ∧ w 77 (1010 + 4 * k) = s ∧ w 77 (1010 + 4 * k + 1) = q := Classical.byContradiction (fun y => nb (fun k k0 k1 t => y ⟨k, ⟨k0, k1⟩, t⟩))
      obtain ⟨k, hk, a, b⟩ := ex
      have x := grp k hk.1 hk.2 a b
      rw [x.2]
      by_cases l : ck_and (ck_shr (w 77 (1260 + r)) (w 77 (1010 + 4 * k + 3))) 1 = 1
      · exact absurd ⟨k, hk, a, b, l⟩ h
      · rw [if_neg l, if_neg (by decide)]
theorem cj_un {A R : Nat} {g : ch_G} (hC : ck_Cx g A R) {w u : ck_W} (hJ : cj_J A R w) (hu : ∀ k, k < 70 → u k = w k) {r z p n : Int} (rok : 0 ≤ r ∧ r < w 77 0) (hz : 0 ≤ z ∧ z ≤ 3) (hp : 0 ≤ p) (hn : p + 3 * n ≤ 4 * (A : Int)) (co : cb_co u 3 0 0 = 3 * n) : cb_un u r z p ↔ ¬ rs_tg (w 77) r z p n := by
  have ar := cs_ar hC
  unfold cb_un rs_tg
  rw [co]
  constructor
  · rintro h ⟨k, hk, a, b, l⟩
    have x := h (w 77 (1010 + 4 * k) - z) (w 77 (1010 + 4 * k + 1) - p) (by omega) (by omega) (by omega) (by omega)
    rw [show z + (w 77 (1010 + 4 * k) - z) = w 77 (1010 + 4 * k) by omega, show p + (w 77 (1010 + 4 * k + 1) - p) = w 77 (1010 + 4 * k + 1) by omega] at x
    exact (cj_bo hC hJ hu rok (by unfold cs_pl; omega)).mp x ⟨k, hk, rfl, rfl, l⟩
  · intro h i j i0 i1 j0 j1
    refine (cj_bo hC hJ hu rok (by unfold cs_pl; omega)).mpr (fun ⟨k, hk, a, b, l⟩ => h ⟨k, hk, ?_, ?_, l⟩)
    · rw [a]; omega
    · rw [b]; omega
/-- what a reader counts for: both say the same -/
theorem cj_vo {A R : Nat} {g : ch_G} (hC : ck_Cx g A R) {w u0 u v' : ck_W} (hJ : cj_J A R w) (e0 : ∀ k, k < 70 → u0 k = w k) {r z p : Int} (L : cb_LK A R u0 u r z p) (rok : 0 ≤ r ∧ r < w 77 0) (k59 : 0 ≤ z ∧ z ≤ 3 → ∀ y, z ≤ y → y ≤ z + 2 → w 59 y ≠ 0) (e76 : v' 76 = w 76) (e77 : v' 77 = w 77) (W : ∀ y, 0 ≤ y → y ≤ 5 → rm_w2 A R w y (w 77 (10 + y) * A) (cj_cp A w y) v') {cd : Int → Int} {n : Nat} (hn : n = (w 12 r).toNat) (hd : cd = fun k => w 11 (r * 300 + k)) {b c : Int → Int} (bb : rs_bb A R v' cd n z p b) (cc : ∀ k, 0 ≤ k → k < w 77 5 → c k = rs_wx (w 77) b k) {P v : Int} (hv : (rs_cn (w 77) b c r z p (cb_bw c (w 77 5).toNat) P ∧ v = cb_bw c (w 77 5).toNat) ∨ (¬ rs_cn (w 77) b c r z p (cb_bw c (w 77 5).toNat) P ∧ v = -1)) : cb_vo u r z p P = v := by
  have ar := cs_ar hC
  have lk := cj_LK hC hJ e0 L rok k59 e76 e77 W hn hd bb cc
  have hu : ∀ k, k < 70 → u k = w k := fun k hk => (L.1 k (Or.inl hk)).trans (e0 k hk)
  have f0 := rm_c0 hJ.2.1.2.2.2.1
  have bwb := cb_bwb c (w 77 5).toNat
  unfold cb_vo
  by_cases no : cb_bw c (w 77 5).toNat = -1
  · rw [if_neg (fun x => x.1 (by rw [lk.1]; exact no))]
    rcases hv with x | x
    · have := x.1.1
      omega
    · exact x.2.symm
  · have o2 := bwb.resolve_left no
    have l2 := lk.2 (by rw [lk.1]; exact no)
    rw [lk.1]
    generalize ho : cb_bw c (w 77 5).toNat = o at *
    -- the boxes of the word are there
    have lb := rm_lnb (w 77) o
    have pos := o2.2.2
    rw [cc o o2.1 (by omega)] at pos
    unfold rs_wx at pos
    have al := rs_wl_p _ _ _ pos
    have box : ∀ j, 0 ≤ j → j < rm_ln (w 77) o → rm_bx v' z (p + 3 * j) := fun j j0 j1 => by
      rcases bb j j0 (by omega) with x | x
      · exact x.1
      · have := al j j0 (by omega); omega
    have bx0 := box 0 (by omega) (by omega)
    have bxn := box (rm_ln (w 77) o - 1) (by omega) (by omega)
    have hz := bx0.1
    have p0 : 0 ≤ p := by have := bx0.2.1; omega
    have th := (bxn.2.2 z (by omega) (by omega)).1
    have tu := rm_turn hJ.2.1.2.2.2.1 (z := z) (by omega) (by omega)
    have mu := Int.mul_le_mul_of_nonneg_right tu.2 (show (0 : Int) ≤ (A : Int) by omega)
    have eA : w 76 0 = (A : Int) := hJ.2.1.1
    rw [e77, e76, eA] at th
    -- letters of the word
    have hX : cs_X w := hJ.1.2.1.2.2.2.2.1
    have c5 : w 15 5 = w 77 5 := hJ.2.2.1.2.2.1.1
    have c4 : w 15 2 = w 77 4 := hJ.2.2.1.2.2.2.2.1
    have l3 := hJ.2.2.1.2.2.1.2 o o2.1 (by omega)
    rw [← hu 18 (by decide)] at l3
    have xo := hX.2.2.2.2 o o2.1 (by omega)
    rw [← hu 18 (by decide)] at xo
    have le : ∀ i, 0 ≤ i → i ≤ 2 → u 18 (o * 3 + i) = w 77 (1300 + 4 * o + i) := fun i i0 i1 => by
      rcases (by omega : i = 0 ∨ i = 1 ∨ i = 2) with e | e | e <;> subst e
      · rw [Int.add_zero, Int.add_zero]; exact l3.1
      · exact l3.2.1
      · exact l3.2.2
    have x0 := xo.2.1
    have x1 := xo.2.2.1
    have x2 := xo.2.2.2.1
    have x3 := xo.2.2.2.2
    have elen : rm_ln (w 77) o = if 0 ≤ u 18 (o * 3 + 1) then (if 0 ≤ u 18 (o * 3 + 2) then 3 else 2) else 1 := by
      unfold rm_ln
      rw [← l3.2.1, ← l3.2.2]
    have ln : ∀ i, 0 ≤ i → i ≤ 2 → (i < rm_ln (w 77) o ↔ ¬ u 18 (o * 3 + i) = -1) := fun i i0 i1 => by
      rw [elen]
      rcases (by omega : i = 0 ∨ i = 1 ∨ i = 2) with e | e | e <;> subst e
      · rw [Int.add_zero]
        by_cases q : 0 ≤ u 18 (o * 3 + 1)
        · rw [if_pos q]
          by_cases q2 : 0 ≤ u 18 (o * 3 + 2)
          · rw [if_pos q2]; omega
          · rw [if_neg q2]; omega
        · rw [if_neg q]; omega
      · by_cases q : 0 ≤ u 18 (o * 3 + 1)
        · rw [if_pos q]
          by_cases q2 : 0 ≤ u 18 (o * 3 + 2)
          · rw [if_pos q2]; omega
          · rw [if_neg q2]; omega
        · rw [if_neg q]; omega
      · by_cases q : 0 ≤ u 18 (o * 3 + 1)
        · rw [if_pos q]
          by_cases q2 : 0 ≤ u 18 (o * 3 + 2)
          · rw [if_pos q2]; omega
          · rw [if_neg q2]; omega
        · rw [if_neg q]; omega
    have co : cb_co u 3 0 0 = 3 * rm_ln (w 77) o := by
      have n0 := ln 0 (by decide) (by decide)
      rw [Int.add_zero] at n0
      rw [cb_co, cb_co, cb_co, cb_co, lk.1, elen, show o * 3 + (0 : Int) = o * 3 by omega, show (0 : Int) + 1 = 1 by decide, show (1 : Int) + 1 = 2 by decide, if_neg (show ¬ u 18 (o * 3) = -1 by omega)]
      by_cases q : u 18 (o * 3 + 1) = -1
      · rw [if_pos q, if_pos (x3 q), if_neg (by omega)]; omega
      · rw [if_neg q, if_pos (show 0 ≤ u 18 (o * 3 + 1) by omega)]
        by_cases q2 : u 18 (o * 3 + 2) = -1
        · rw [if_pos q2, if_neg (by omega)]; omega
        · rw [if_neg q2, if_pos (show 0 ≤ u 18 (o * 3 + 2) by omega)]; omega
    have un := cj_un hC hJ hu rok hz p0 (n := rm_ln (w 77) o) (by omega) co
    have bl : ∀ s, cs_bl u s (u 15 2).toNat 0 (-1, 0) = rs_bl (w 77) s (w 77 4).toNat 0 (-1, 0) := fun s => by
      rw [hu 15 (by decide), c4, cs_bl_c (hu 15 (by decide)) (hu 16 (by decide)) (hu 17 (by decide))]
      exact cj_bl hJ (s := s) (w 77 4).toNat 0 (-1, 0) (by omega) (by omega)
    have by_ : cb_by u ↔ ∀ k, 0 ≤ k → k < rm_ln (w 77) o → (rs_bl (w 77) (b k) (w 77 4).toNat 0 (-1, 0)).1 = w 77 (1300 + 4 * o + k) := by
      unfold cb_by
      rw [lk.1]
      constructor
      · intro h k k0 k1
        have x := h k k0 (by omega) ((ln k k0 (by omega)).mp k1)
        rw [bl, l2.2 k k0 (by omega), le k k0 (by omega)] at x
        exact x
      · intro h k k0 k1 ne
        have x := h k k0 ((ln k k0 (by omega)).mpr ne)
        rw [bl, l2.2 k k0 k1, le k k0 (by omega)]
        exact x
    have od := l2.1 o o2.1 (by omega)
    have key : (o ≠ -1 ∧ P ≤ cb_od u o ∧ cb_by u ∧ cb_un u r z p) ↔ rs_cn (w 77) b c r z p o P := by
      unfold rs_cn
      rw [od, by_, un]
      exact ⟨fun h => ⟨o2.1, h.2.1, h.2.2.2, h.2.2.1⟩, fun h => ⟨by omega, h.2.1, h.2.2.2, h.2.2.1⟩⟩
    rcases hv with x | x
    · rw [if_pos (key.mpr x.1)]; exact x.2.symm
    · rw [if_neg (fun y => x.1 (key.mp y))]; exact x.2.symm
theorem cb_ct_e {vs vs' : Int → Int} {k : Int} : ∀ n : Nat, (∀ r : Int, 0 ≤ r → r < n → vs r = vs' r) → cb_ct vs k n = cb_ct vs' k n
  | 0, _ => rfl
  | n + 1, h => by
    rw [cb_ct, cb_ct, cb_ct_e n (fun r a b => h r a (by omega)), h n (by omega) (by omega)]
theorem cb_ct_m {vs : Int → Int} {k : Int} (n : Nat) : ∀ m : Nat, (∀ r : Int, (n : Int) ≤ r → r < ((n + m : Nat) : Int) → vs r ≠ k) → cb_ct vs k (n + m) = cb_ct vs k n
  | 0, _ => rfl
  | m + 1, h => by
    rw [show n + (m + 1) = (n + m) + 1 by omega, cb_ct, cb_ct_m n m (fun r a b => h r a (by omega)), if_neg (h ((n + m : Nat) : Int) (by omega) (by omega)), Int.add_zero]
theorem cb_mv_m {f : Int → Int} {a : Int} (n : Nat) : ∀ m : Nat, (∀ k : Int, (n : Int) ≤ k → k < ((n + m : Nat) : Int) → f k < a) → cb_mv f a (n + m) = cb_mv f a n
  | 0, _ => rfl
  | m + 1, h => by
    rw [show n + (m + 1) = (n + m) + 1 by omega, cb_mv, if_pos (h ((n + m : Nat) : Int) (by omega) (by omega))]
    exact cb_mv_m n m (fun k a b => h k a (by omega))
theorem J2_printed {g : ch_G} {A R : Nat} (hC : ck_Cx g A R) {w : ck_W} {P : Int → Int → ck_W → Prop} (hJ : cj_J A R w) {a1 a2 a3 a4 a5 : Int} (H : ∀ v w2, cj_J A R w2 → P v v w2) : ck_CI (ch_C g A R) 11 mX11_printed [.inr (.inr 0), .inl a1, .inl a2, .inl a3, .inl a4, .inl a5] w (fun v w1 => ck_CI (ch_C g A R) 11 mX12_printed [.inr (.inr 76), .inl a1, .inl a2, .inl a3, .inl a4, .inl a5] w1 (fun v2 w2 => P v v2 w2)) := by
  obtain ⟨hI, hN, hK, hZ⟩ := hJ.1
  obtain ⟨n1, ⟨n2, n3, n4⟩, n5, ⟨n6, n7⟩, n8, n9⟩ := hN
  have er : w 10 3 = w 77 0 := hJ.2.2.2.2.2.1.1
  have c5 : w 15 5 = w 77 5 := hJ.2.2.1.2.2.1.1
  have f0 := rm_c0 hJ.2.1.2.2.2.1
  have hq := hJ.2.2.2.2.2.2.2.1
  have hE : ∃ e : Int → Int, ∀ r, 0 ≤ r → r < w 77 0 → cX (800 * r) (w 79 (800 * r)) (e r) (fun i => w 11 (r * 300 + i)) (w 79) ∧ w 12 r = w 79 (800 * r) + e r := by
    refine ⟨fun r => if h : 0 ≤ r ∧ r < w 77 0 then Classical.choose (hq r h.1 h.2) else 0, fun r a b => ?_⟩
    dsimp only
    rw [dif_pos (show 0 ≤ r ∧ r < w 77 0 from ⟨a, b⟩)]
    exact Classical.choose_spec (hq r a b)
  obtain ⟨e, he⟩ := hE
  refine C_printed (d := 4) hC hI n4 n6 n8 (fun cnd w1 w' vs q i k59 hvs Q i' => ⟨_, rfl, fun _ => ?_⟩) (fun no => ⟨_, rfl, fun _ => M2_printed (d := 4) (e := e) (cd := fun r i => w 11 (r * 300 + i)) hC hJ.2.1 (cj_cps hJ) (fun r a b => (he r a b).1) (fun x => absurd (by rw [er]; exact x) no) (fun _ => ⟨_, rfl, fun _ => H _ w hJ⟩)⟩)
  have J1 : cj_J A R w1 := cj_quiet hC hJ (cs_Q_q q) i rm_q_rf
  have J2 : cj_J A R w' := cj_quiet hC hJ Q i' rm_q_rf
  have e79 : w' 79 = w 79 := Q 79 (by omega)
  have e77 : w' 77 = w 77 := Q 77 (by omega)
  have f76 : w' 76 = w1 76 := (Q 76 (by omega)).trans (q 76 (by omega)).symm
  have f77 : w' 77 = w1 77 := e77.trans (q 77 (by omega)).symm
  have f7 : w' 7 = w1 7 := (Q 7 (by omega)).trans (q 7 (by omega)).symm
  refine M2_printed (d := 4) (e := e) (cd := fun r i => w 11 (r * 300 + i)) hC J2.2.1 (cj_cps J2) (fun r a b => by rw [e79]; exact (he r a (by rw [e77] at b; exact b)).1) (fun _ wA w3 v2 fA W hq2 hv2 => ⟨_, rfl, fun _ => ?_⟩) (fun no => absurd (by rw [e77, ← er]; exact cnd) no)
  have W1 := cj_W f76 f77 f7 W
  have u76 : wA 76 = w1 76 := by rw [← f76]; exact fA 76 (by decide) (by decide) (by decide) (by decide) (by decide) (by decide) (by decide) (by decide)
  have u77 : wA 77 = w1 77 := by rw [← f77]; exact fA 77 (by decide) (by decide) (by decide) (by decide) (by decide) (by decide) (by decide) (by decide)
  have a1b : 0 ≤ a1 ∧ a1 < 2147483648 := by
    have sh := cs_pp (k := w 10 3) (by omega)
    have := cnd.1
    omega
  have same : ∀ r, 0 ≤ r → r < w 77 0 → vs r = v2 r := fun r r0 r1 => by
    have bit := kb_bit01 (x := a1) (k := r) a1b.1 a1b.2 r0 (by omega)
    rcases hvs r r0 (by omega) with ⟨x1, x2⟩ | ⟨x1, u0, u, x2, x3, x4⟩
    · rcases hv2 r r0 (by omega) with ⟨y1, y2⟩ | ⟨y1, y2⟩
      · rw [x2, y2]
      · omega
    · rcases hv2 r r0 (by omega) with ⟨y1, y2⟩ | ⟨y1, y2, b, c, y3, y4, y5⟩
      · omega
      · rw [x4]
        rw [f77] at y4 y5
        exact cj_vo hC J1 x2 x3 (by rw [← f77, e77]; exact ⟨r0, r1⟩) k59 u76 u77 W1 (by rw [q 12 (by decide), (he r r0 r1).2, e79]) (by rw [q 11 (by decide)]) y3 y4 y5
  have rest : ∀ r, w 77 0 ≤ r → 0 ≤ r → r < 4 → v2 r = -1 := fun r r2 r0 r1 => by
    rcases hv2 r r0 r1 with ⟨y1, y2⟩ | ⟨y1, y2, _⟩
    · exact y2
    · rw [e77] at y2; omega
  have low : ∀ r, 0 ≤ r → r < 4 → v2 r < w 77 5 := fun r r0 r1 => by
    rcases hv2 r r0 r1 with ⟨y1, y2⟩ | ⟨y1, y2, b, c, y3, y4, y5⟩
    · omega
    · have bwb := cb_bwb c (w' 77 5).toNat
      rw [e77] at bwb y5
      rcases y5 with y | y
      · rw [y.2]; omega
      · omega
  have ct : ∀ k : Int, 0 ≤ k → cb_ct vs k (w 10 3).toNat = cb_ct v2 k 4 := fun k k0 => by
    rw [cb_ct_e (w 10 3).toNat (fun r a b => same r a (by omega)), show (4 : Nat) = (w 10 3).toNat + (4 - (w 10 3).toNat) by omega, cb_ct_m]
    intro r a b
    rw [rest r (by omega) (by omega) (by omega)]
    omega
  have zero : ∀ k : Int, w 77 5 ≤ k → cb_ct v2 k 4 = 0 := fun k hk => by
    have x := cb_ct_m (vs := v2) (k := k) 0 4 (fun r a b => by have := low r (by omega) (by omega); omega)
    rw [Nat.zero_add] at x
    exact x
  have E : cb_mv (fun k => cb_ct vs k (w 10 3).toNat) a5 (w 15 5).toNat = cb_mv (fun k => cb_ct v2 k 4) a5 12 := by
    rw [cb_mv_fr (g := fun k => cb_ct v2 k 4) (w 15 5).toNat (fun k a b => ct k a), show (12 : Nat) = (w 15 5).toNat + (12 - (w 15 5).toNat) by omega, cb_mv_m]
    intro k a b
    have := zero k (by omega)
    have := cnd.2.2
    show cb_ct v2 k 4 < a5
    omega
  rw [E]
  exact H _ w3 (cj_quiet hC J2 (fun _ _ => rfl) i' hq2)
