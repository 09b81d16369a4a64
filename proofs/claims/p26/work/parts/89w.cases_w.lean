/-! ===== both windings side by side: flat ===== -/
theorem cs_sr_e {t t' f f' : Int → Int} {k p x : Int} (e : ∀ z, 0 ≤ z → z ≤ 5 → t' z = t z ∧ (k ≤ t z → f' (z * 24 + p) = f (z * 24 + p))) : ∀ (n : Nat) (z s : Int), 0 ≤ z → z + n ≤ 6 → cs_sr t' f' k p x n z s = cs_sr t f k p x n z s
  | 0, _, _, _, _ => rfl
  | n + 1, z, s, h0, h1 => by
    have ez := e z h0 (by omega)
    rw [cs_sr, cs_sr, ez.1]
    by_cases q : t z < k
    · rw [if_pos q, if_pos q]
      exact cs_sr_e e n (z + 1) s (by omega) (by omega)
    · rw [if_neg q, if_neg q, ez.2 (by omega)]
      exact cs_sr_e e n (z + 1) _ (by omega) (by omega)
theorem cs_wd_e {t t' f f' : Int → Int} {k p : Int} (e : ∀ z, 0 ≤ z → z ≤ 5 → t' z = t z ∧ (k ≤ t z → f' (z * 24 + p) = f (z * 24 + p))) : ∀ (n : Nat) (z : Int) (s : Int × Int), 0 ≤ z → z + n ≤ 6 → cs_wd t' f' k p n z s = cs_wd t f k p n z s
  | 0, _, _, _, _ => rfl
  | n + 1, z, s, h0, h1 => by
    have ez := e z h0 (by omega)
    rw [cs_wd, cs_wd, ez.1]
    by_cases q : t z < k
    · rw [if_pos q, if_pos q]
      exact cs_wd_e e n (z + 1) s (by omega) (by omega)
    · rw [if_neg q, if_neg q, ez.2 (by omega), cs_sr_e e 6 0 0 (by omega) (by omega)]
      exact cs_wd_e e n (z + 1) _ (by omega) (by omega)
theorem cs_fl_e {t t' f f' : Int → Int} {k b : Int} (e : ∀ p, 0 ≤ p → p < b → ∀ z, 0 ≤ z → z ≤ 5 → t' z = t z ∧ (k ≤ t z → f' (z * 24 + p) = f (z * 24 + p))) : ∀ (n : Nat) (p s : Int), 0 ≤ p → p + n ≤ b → cs_fl t' f' k n p s = cs_fl t f k n p s
  | 0, _, _, _, _ => rfl
  | n + 1, p, s, h0, h1 => by
    have ep := e p h0 (by omega)
    rw [cs_fl, cs_fl, cs_wd_e ep 6 0 (0, 0) (by omega) (by omega), cs_sr_e ep 6 0 0 (by omega) (by omega)]
    exact cs_fl_e e n (p + 1) _ (by omega) (by omega)
theorem cj_cps {A R : Nat} {w : ck_W} (hJ : cj_J A R w) : rm_cps w (cj_cp A w) := ⟨fun z => cj_cp1 hJ.2.1 hJ.2.2.1, fun z p hz => cj_cp2 hJ.2.2.1 hz p⟩
/-- a slice that is settled: the reference finds the same -/
theorem cj_wz {A R : Nat} {g : ch_G} (hC : ck_Cx g A R) {w w' : ck_W} (hJ : cj_J A R w) {z : Int} (hz : 0 ≤ z ∧ z ≤ 5) (h : rm_w2 A R w z (w 77 (10 + z) * A) (cj_cp A w z) w') (k : w 59 z ≠ 0) : (w 61 z ≤ 0 → w' 83 z < 0) ∧ (0 < w 61 z → 0 ≤ w' 83 z ∧ w' 83 z = w 60 z ∧ w' 84 z = w 61 z ∧ ∀ p, 0 ≤ p → p < w 6 z * (A : Int) → w' 85 (24 * z + p) = w 62 (z * 24 + p)) := by
  have hV := hJ.1.1
  have l := cj_wl hC hJ.2.1 hV hJ.2.2.1 hz h
  have r := hV.2.2.2.2 z hz.1 hz.2 k
  have bo := cw_be_ok hC (hV.1.2.1 z hz.1 hz.2) (cw_gv hC hV.1.2.2 hz)
  unfold cw_res at r
  obtain ⟨r1, r2, r3⟩ := r
  generalize cw_be A R (w 6 z) (cw_g A R w z) = b at *
  by_cases e : b = 0
  · refine ⟨fun _ => by have := (l.1 e).1; omega, fun y => ?_⟩
    rw [r2, e] at y
    exact absurd y (by decide)
  · have bz : 0 ≤ b / 1048576 ∧ 1 ≤ b % 1048576 := by
      unfold cw_ok at bo
      rcases bo with x | x
      · exact absurd x e
      · omega
    have q := l.2 e
    refine ⟨fun y => by omega, fun _ => ⟨by omega, by omega, by omega, fun p p0 p1 => ?_⟩⟩
    rw [q.2.2 p p0 p1]
    exact ((r3 e p p0 p1).1).symm
theorem J2_flat {g : ch_G} {A R : Nat} (hC : ck_Cx g A R) {w : ck_W} {P : Int → Int → ck_W → Prop} (hJ : cj_J A R w) {a1 a2 a3 : Int} (H : ∀ v w2, cj_J A R w2 → P v v w2) : ck_CI (ch_C g A R) 11 mX11_flat [.inr (.inr 0), .inl a1, .inl a2, .inl a3] w (fun v w1 => ck_CI (ch_C g A R) 11 mX12_flat [.inr (.inr 76), .inl a1, .inl a2, .inl a3] w1 (fun v2 w2 => P v v2 w2)) := by
  refine C_flat (d := 4) hC hJ.1.1 (fun rg w1 q i _ al => ⟨_, rfl, fun _ => ?_⟩) (fun w1 q i _ bad => ⟨_, rfl, fun _ => ?_⟩)
  · have J1 : cj_J A R w1 := cj_quiet hC hJ (cs_Q_q q) i rm_q_rf
    have ct := J1.2.2.1.2.2.2.2.2.2.2.1
    refine M2_flat (d := 4) hC J1.2.1 (cj_cps J1) (fun _ w2 hq W2 ex ok => ⟨_, rfl, fun _ => ?_⟩) (fun w2 hq bad => ⟨_, rfl, fun _ => ?_⟩)
    · have J2 := cj_quiet hC J1 (fun _ _ => rfl) i hq
      have e : ∀ p, 0 ≤ p → p < a2 + 1 → ∀ z, 0 ≤ z → z ≤ 5 → w1 77 (10 + z) = w1 6 z ∧ (a1 ≤ w1 6 z → w2 85 (z * 24 + p) = w1 62 (z * 24 + p)) := by
        intro p p0 p1 z z0 z1
        refine ⟨(ct z z0 z1).symm, fun y => ?_⟩
        have s := al.2 z z0 z1 y
        have m1 : a1 * (A : Int) ≤ w1 6 z * (A : Int) := Int.mul_le_mul_of_nonneg_right y (by omega)
        rw [show z * 24 + p = 24 * z + p by omega, ((cj_wz hC J1 ⟨z0, z1⟩ (W2 z z0 z1) s.1).2 s.2).2.2.2 p p0 (by omega), show 24 * z + p = z * 24 + p by omega]
      have e1 := cs_wd_e (t := w1 6) (t' := fun z => w1 77 (10 + z)) (f := w1 62) (f' := w2 85) (k := a1) (p := a2) (e a2 (by omega) (by omega)) 6 0 (0, 0) (by omega) (by omega)
      have e2 := cs_fl_e (t := w1 6) (t' := fun z => w1 77 (10 + z)) (f := w1 62) (f' := w2 85) (k := a1) (b := a2 + 1) e 1 a2 0 (by omega) (by omega)
      have e3 := cs_fl_e (t := w1 6) (t' := fun z => w1 77 (10 + z)) (f := w1 62) (f' := w2 85) (k := a1) (b := a2 + 1) e (a2 + 1).toNat 0 0 (by omega) (by omega)
      rw [e1, e2, e3]
      exact H _ w2 J2
    · exfalso
      obtain ⟨W2, o⟩ := bad rg
      obtain ⟨⟨y, y0, y1⟩, al2⟩ := al
      rcases o with o | ⟨z, z0, z1, z2⟩
      · have := o y y0.1 y0.2
        rw [← ct y y0.1 y0.2] at this
        omega
      · rw [← ct z z0.1 z0.2] at z1
        have s := al2 z z0.1 z0.2 z1
        have := ((cj_wz hC J1 z0 (W2 z z0.1 z0.2) s.1).2 s.2).1
        omega
  · have J1 : cj_J A R w1 := cj_quiet hC hJ (cs_Q_q q) i rm_q_rf
    have ct := J1.2.2.1.2.2.2.2.2.2.2.1
    refine M2_flat (d := 4) hC J1.2.1 (cj_cps J1) (fun rg w2 hq W2 ex ok => ?_) (fun w2 hq _ => ⟨_, rfl, fun _ => H _ w2 (cj_quiet hC J1 (fun _ _ => rfl) i hq)⟩)
    exfalso
    rcases bad rg with o | ⟨z, z0, z1, z2, z3⟩
    · obtain ⟨y, y0, y1⟩ := ex
      have := o y y0.1 y0.2
      rw [← ct y y0.1 y0.2] at y1
      omega
    · have a := (cj_wz hC J1 z0 (W2 z z0.1 z0.2) z2).1 z3
      have b := ok z z0.1 z0.2 (by rw [← ct z z0.1 z0.2]; exact z1)
      omega
/-! ===== walked ===== -/
theorem cx_L_e {J : Int} {c c' : Int → Int → Int} : ∀ (m : Nat) (t s : Int), (∀ t' s, t ≤ t' → t' ≤ t + m → c t' s = c' t' s) → cx_L J c m t s = cx_L J c' m t s
  | 0, t, s, h => by rw [cx_L, cx_L]; exact h t s (by omega) (by omega)
  | m + 1, t, s, h => by
    have i : ∀ x, cx_L J c m (t + 1) x = cx_L J c' m (t + 1) x := fun x => cx_L_e m (t + 1) x (fun t' s a b => h t' s (by omega) (by omega))
    rw [cx_L, cx_L, h t s (by omega) (by omega)]
    simp only [i]
theorem cx_ov_e {J n : Int} {c c' : Int → Int → Int} (h : ∀ t s, 0 ≤ t → t < n → c t s = c' t s) : ∀ t : Nat, (t : Int) < n → cx_ov J n c t = cx_ov J n c' t
  | 0, _ => by rw [cx_ov, cx_ov]
  | t + 1, ht => by
    have i := cx_ov_e (J := J) h t (by omega)
    have e : ∀ x, cx_L J c (n - 2 - t).toNat ((t : Int) + 1) x = cx_L J c' (n - 2 - t).toNat ((t : Int) + 1) x := fun x => cx_L_e _ _ x (fun t' s a b => h t' s (by omega) (by omega))
    rw [cx_ov, cx_ov, i]
    simp only [e]
theorem rx_an_e {A : Nat} {J n T p what : Int} {c c' : Int → Int → Int} (hn : 1 ≤ n) (hw : (0 ≤ what ∧ what ≤ 1) ∨ (100 ≤ what ∧ what ≤ 99 + n)) (h : ∀ t s, 0 ≤ t → t < n → c t s = c' t s) : rx_an A J n T c p what = rx_an A J n T c' p what := by
  unfold rx_an
  by_cases a : what = 0
  · rw [if_pos a, if_pos a]
    exact cx_L_e _ _ _ (fun t s x y => h t s (by omega) (by omega))
  · rw [if_neg a, if_neg a]
    by_cases b : what = 1
    · rw [if_pos b, if_pos b]
      exact cx_ct_fr _ _ _ (by omega) (fun x x0 x1 => cx_ov_e h x.toNat (by omega))
    · rw [if_neg b, if_neg b, cx_ov_e h (what - 100).toNat (by omega)]
theorem J2_walked {g : ch_G} {A R : Nat} (hC : ck_Cx g A R) {w : ck_W} {P : Int → Int → ck_W → Prop} (hJ : cj_J A R w) {a1 a2 a3 : Int} (H : ∀ v w2, cj_J A R w2 → P v v w2) : ck_CI (ch_C g A R) 11 mX11_walked [.inr (.inr 0), .inl a1, .inl a2, .inl a3] w (fun v w1 => ck_CI (ch_C g A R) 11 mX12_walked [.inr (.inr 76), .inl a1, .inl a2, .inl a3] w1 (fun v2 w2 => P v v2 w2)) := by
  obtain ⟨hI, hN, hK, hZ⟩ := hJ.1
  obtain ⟨n1, ⟨n2, n3, n4⟩, n5, ⟨n6, n7⟩, n8, n9⟩ := hN
  refine C_walked (d := 5) hC hI n5 (fun hp h8 rng w1 w' q i _ kn pos e => ⟨_, rfl, fun _ => ?_⟩) (fun w1 q i _ bad => ⟨_, rfl, fun _ => ?_⟩)
  · have i' : cw_IV A R w' := cw_IV_fr hC i (fun k hk => e k (by omega) (by omega))
    have J1 : cj_J A R w' := cj_quiet hC hJ (fun k hk => (e k (by omega) (by omega)).trans (q k (by omega))) i' rm_q_rf
    have ea : cx_an A w1 a1 a2 a3 = cx_an A w' a1 a2 a3 := by
      unfold cx_an cx_c
      rw [e 8 (by decide) (by decide), e 6 (by decide) (by decide), e 9 (by decide) (by decide), e 62 (by decide) (by decide)]
    rw [← e 59 (by decide) (by decide)] at kn
    rw [← e 61 (by decide) (by decide)] at pos
    have w8 : w' 8 = w 8 := (e 8 (by decide) (by decide)).trans (q 8 (by decide))
    have w6 : w' 6 = w 6 := (e 6 (by decide) (by decide)).trans (q 6 (by decide))
    have cc := J1.2.2.1
    have ct := cc.2.2.2.2.2.2.2.1
    have c8 : w' 8 1 = w' 77 2 := cc.2.2.2.1
    have ck := cc.2.2.2.2.2.2.2.2.2.1
    have hz := hp.1
    have cz := ct a1 hz.1 hz.2
    refine M2_walked (d := 5) hC J1.2.1 (cj_cps J1) (fun rg wa wb qa qb W2 ok => ⟨_, rfl, fun _ => ?_⟩) (fun wb qb bad => ⟨_, rfl, fun _ => ?_⟩)
    · have z := (cj_wz hC J1 hz W2 kn).2 pos
      have ce : ∀ t s, 0 ≤ t → t < w' 77 2 → rm_ct wa a1 a2 t s = cx_c A w' a1 a2 t s := by
        intro t s t0 t1
        unfold rm_ct cx_c
        rw [qa.1, qa.2.1, J1.2.1.1, ← cz, ck.2 t t0 t1]
        by_cases y : 0 ≤ a2 + t + (A : Int) * s ∧ a2 + t + (A : Int) * s < w' 6 a1 * (A : Int)
        · rw [if_pos y, if_pos (by omega), z.2.2.2 _ y.1 y.2]
        · rw [if_neg y, if_neg (by omega)]
      have er := rx_an_e (A := A) (J := w' 77 7) (n := w' 77 2) (T := w' 77 (10 + a1) * (A : Int)) (p := a2) (what := a3) rg.2.2.1 rg.2.2.2 ce
      rw [ea, cx_an_e, er, ck.1, c8, cz]
      exact H _ wb (cj_quiet hC J1 (fun _ _ => rfl) i' qb)
    · exfalso
      have hp2 := hp.2
      rw [← w6, cz] at hp2
      rw [← w8, c8] at h8 rng
      obtain ⟨W2, o⟩ := bad ⟨hz, hp2, h8, rng⟩
      have z := ((cj_wz hC J1 hz W2 kn).2 pos).1
      omega
  · have J1 : cj_J A R w1 := cj_quiet hC hJ (cs_Q_q q) i rm_q_rf
    have cc := J1.2.2.1
    have ct := cc.2.2.2.2.2.2.2.1
    have c8 : w1 8 1 = w1 77 2 := cc.2.2.2.1
    refine M2_walked (d := 5) hC J1.2.1 (cj_cps J1) (fun rg wa wb qa qb W2 ok => ?_) (fun wb qb _ => ⟨_, rfl, fun _ => H _ wb (cj_quiet hC J1 (fun _ _ => rfl) i qb)⟩)
    exfalso
    obtain ⟨hz, hp2, h8, rng⟩ := rg
    rw [← ct a1 hz.1 hz.2, q 6 (by decide)] at hp2
    rw [← c8, q 8 (by decide)] at h8 rng
    have b := bad ⟨hz, hp2⟩ h8 rng
    have z := (cj_wz hC J1 hz W2 b.1).1 b.2
    omega
