/-! ===== both systems: words joined ===== -/
theorem cb_wc_sk {w : ck_W} {o lk b : Int} : ∀ (n : Nat) (i : Int), (∀ j, i ≤ j → j < i + n → w 18 (o * 3 + j) = -1) → cb_wc w o n i lk b = w 19 o * (ck_pw (w 15 6) lk * ck_pw (w 15 7) (b - lk)) * ck_pw (max (w 15 6) (w 15 7)) (27 - b)
  | 0, _, _ => rfl
  | n + 1, i, h => by
    rw [cb_wc, if_pos (h i (by omega) (by omega))]
    exact cb_wc_sk n (i + 1) (fun j a b => h j (by omega) (by omega))
theorem cb_bw_z {f : Int → Int} : ∀ n : Nat, (∀ k : Int, 0 ≤ k → k < n → f k ≤ 0) → cb_bw f n = -1
  | 0, _ => rfl
  | n + 1, h => by
    rw [cb_bw, if_pos (h n (by omega) (by omega))]
    exact cb_bw_z n (fun k a b => h k a (by omega))
theorem cb_bw_q {f g : Int → Int} : ∀ n : Nat, (∀ k : Int, 0 ≤ k → k < n → (f k = 0 ∧ g k = -1) ∨ (1 ≤ f k ∧ g k = f k)) → cb_bw f n = cb_bw g n
  | 0, _ => rfl
  | n + 1, h => by
    have i := cb_bw_q n (fun k a b => h k a (by omega))
    have b := cb_bwb f n
    have hn := h n (by omega) (by omega)
    rw [cb_bw, cb_bw, ← i]
    rcases hn with x | x
    · rw [if_pos (show f n ≤ 0 by omega), if_pos (show g n ≤ 0 by omega)]
    · rw [if_neg (show ¬ f n ≤ 0 by omega), if_neg (show ¬ g n ≤ 0 by omega)]
      rcases b with e | e
      · rw [if_pos e, if_pos e]
      · have y := h (cb_bw f n) e.1 (by omega)
        have e2 := e.2.2
        have gy : g (cb_bw f n) = f (cb_bw f n) := by omega
        rw [gy, x.2]
theorem cs_sm_q {f g : Int → Int} : ∀ n : Nat, (∀ k : Int, 0 ≤ k → k < n → (f k = 0 ∧ g k = -1) ∨ (1 ≤ f k ∧ g k = f k)) → cs_sm f n = cs_sm (fun j => if g j ≤ 0 then 0 else g j) n
  | 0, _ => rfl
  | n + 1, h => by
    have hn := h n (by omega) (by omega)
    rw [cs_sm, cs_sm, cs_sm_q n (fun k a b => h k a (by omega))]
    rcases hn with x | x
    · rw [if_pos (by omega)]; omega
    · rw [if_neg (by omega)]; omega
/-- the chance of a word: both reckon the same -/
theorem cj_wc {A R : Nat} {w c : ck_W} (hJ : cj_J A R w) (hc : ∀ k, 15 ≤ k → k ≤ 19 → c k = w k) {b : Int → Int} (hb : ∀ i, 0 ≤ i → i < 3 → c 73 i = b i) (hs : cb_sp c) {o : Int} (ho : 0 ≤ o ∧ o < w 77 5) : (cb_wc c o 3 0 0 0 = 0 ∧ rs_wx (w 77) b o = -1) ∨ (1 ≤ cb_wc c o 3 0 0 0 ∧ rs_wx (w 77) b o = cb_wc c o 3 0 0 0) := by
  obtain ⟨_, _, cw3, _, c4, _, _, _, _, _, xl, xw, _⟩ := hJ.2.2.1
  have hX : cs_X c := cs_X_fr hJ.1.2.1.2.2.2.2.1 hc
  have e15 := hc 15 (by decide) (by decide)
  have e16 := hc 16 (by decide) (by decide)
  have e18 := hc 18 (by decide) (by decide)
  have e19 := hc 19 (by decide) (by decide)
  have oc : 0 ≤ o ∧ o < c 15 5 := by rw [e15, cw3.1]; exact ho
  have l3 := cw3.2 o ho.1 ho.2
  rw [← e18] at l3
  have xo := hX.2.2.2.2 o oc.1 oc.2
  have hH := hX.2.2.1
  have e6 : c 15 6 = w 77 8 := by rw [e15]; exact xw.1.1
  have e7 : c 15 7 = w 77 9 := by rw [e15]; exact xw.1.2
  have e2 : c 15 2 = w 77 4 := by rw [e15]; exact c4
  have ewt : c 19 o = w 77 (1300 + 4 * o + 3) := by rw [e19]; exact xw.2 o ho.1 ho.2
  have lb := rm_lnb (w 77) o
  have emx : (if w 77 8 ≤ w 77 9 then w 77 9 else w 77 8) = max (c 15 6) (c 15 7) := by
    rw [e6, e7]
    by_cases q : w 77 8 ≤ w 77 9
    · rw [if_pos q]; omega
    · rw [if_neg q]; omega
  have le : ∀ i, 0 ≤ i → i ≤ 2 → c 18 (o * 3 + i) = w 77 (1300 + 4 * o + i) := fun i i0 i1 => by
    rcases (by omega : i = 0 ∨ i = 1 ∨ i = 2) with e | e | e <;> subst e
    · rw [Int.add_zero, Int.add_zero]; exact l3.1
    · exact l3.2.1
    · exact l3.2.2
  have ln : ∀ i, 0 ≤ i → i ≤ 2 → (i < rm_ln (w 77) o ↔ ¬ c 18 (o * 3 + i) = -1) := fun i i0 i1 => by
    have x0 := xo.2.1
    have x1 := xo.2.2.1
    have x2 := xo.2.2.2.1
    have x3 := xo.2.2.2.2
    rcases (by omega : i = 0 ∨ i = 1 ∨ i = 2) with e | e | e <;> subst e
    · rw [Int.add_zero]; omega
    · unfold rm_ln
      rw [← l3.2.1, ← l3.2.2]
      by_cases q : 0 ≤ c 18 (o * 3 + 1)
      · rw [if_pos q]
        by_cases q2 : 0 ≤ c 18 (o * 3 + 2)
        · rw [if_pos q2]; omega
        · rw [if_neg q2]; omega
      · rw [if_neg q]; omega
    · unfold rm_ln
      rw [← l3.2.1, ← l3.2.2]
      by_cases q : 0 ≤ c 18 (o * 3 + 1)
      · rw [if_pos q]
        by_cases q2 : 0 ≤ c 18 (o * 3 + 2)
        · rw [if_pos q2]; omega
        · rw [if_neg q2]; omega
      · rw [if_neg q]; omega
  generalize hn : rm_ln (w 77) o = n at *
  generalize hM : ck_pw (max (c 15 6) (c 15 7)) (9 * (3 - n)) = M
  have pM : 1 ≤ M := by rw [← hM]; exact ck_pw_pos (by have := hH.1.1; omega)
  have px : ∀ i lk : Int, 1 ≤ c 19 o * (ck_pw (c 15 6) lk * ck_pw (c 15 7) (9 * i - lk)) * M := fun i lk =>
    ck_mlp (ck_mlp xo.1.1 (ck_mlp (ck_pw_pos hH.1.1) (ck_pw_pos hH.2.1))) pM
  have go : ∀ (m : Nat) (i lk : Int), i + m = 3 → 0 ≤ i → i ≤ n → (0 ≤ lk ∧ lk ≤ 9 * i) → (cb_wc c o m i lk (9 * i) = 0 ∧ rs_wl (w 77) b o (n - i).toNat i (c 19 o * (ck_pw (c 15 6) lk * ck_pw (c 15 7) (9 * i - lk)) * M) = -1) ∨ (1 ≤ cb_wc c o m i lk (9 * i) ∧ rs_wl (w 77) b o (n - i).toNat i (c 19 o * (ck_pw (c 15 6) lk * ck_pw (c 15 7) (9 * i - lk)) * M) = cb_wc c o m i lk (9 * i)) := by
    intro m
    have fin : ∀ (m : Nat) (i lk : Int), i + m = 3 → i = n → (∀ j, i ≤ j → j < i + m → c 18 (o * 3 + j) = -1) → 1 ≤ cb_wc c o m i lk (9 * i) ∧ rs_wl (w 77) b o (n - i).toNat i (c 19 o * (ck_pw (c 15 6) lk * ck_pw (c 15 7) (9 * i - lk)) * M) = cb_wc c o m i lk (9 * i) := by
      intro m i lk g1 g2 sk
      rw [cb_wc_sk m i sk, show (n - i).toNat = 0 by omega, rs_wl, show (27 : Int) - 9 * i = 9 * (3 - n) by omega, hM]
      exact ⟨px i lk, rfl⟩
    induction m with
    | zero =>
      intro i lk g1 g2 g3 g4
      exact Or.inr (fin 0 i lk g1 (by omega) (fun j a b => by omega))
    | succ m ih =>
      intro i lk g1 g2 g3 g4
      by_cases hi : i = n
      · refine Or.inr (fin (m + 1) i lk g1 hi (fun j j0 j1 => Classical.byContradiction (fun q => ?_)))
        have := (ln j (by omega) (by omega)).2 q
        omega
      · have hl := (ln i g2 (by omega)).1 (by omega)
        have p0 := px i lk
        have bi := hb i g2 (by omega)
        have np : ¬ (c 19 o * (ck_pw (c 15 6) lk * ck_pw (c 15 7) (9 * i - lk)) * M ≤ 0) := by omega
        rw [cb_wc, if_neg hl, show (n - i).toNat = (n - (i + 1)).toNat + 1 by omega, rs_wl, if_neg np, bi]
        by_cases q : b i = -1
        · rw [if_pos q, if_neg (by omega), rs_wl_n _ _ _ (by decide)]
          exact Or.inl ⟨rfl, rfl⟩
        · have l := cb_lb hX hs oc (i := i) (by omega) hl (by rw [bi]; exact q)
          rw [bi] at l
          have lf := le i g2 (by omega)
          have l1 := l.1
          have eL : c 16 (c 18 (o * 3 + i)) = w 77 (1270 + 2 * w 77 (1300 + 4 * o + i)) := by
            rw [e16, lf]
            exact (xl _ (by rw [← lf]; exact l1.1) (by rw [← lf, ← e2]; exact l1.2)).1
          have b0 : 0 ≤ b i := l.2.1.1
          have oL := l.2.2
          rw [if_neg q, if_pos b0]
          have eF : rs_ft (w 77) (b i) (w 77 (1300 + 4 * o + i)) = ck_pw (c 15 6) (9 - ck_on 9 (ck_xor (c 16 (c 18 (o * 3 + i))) (b i))) * ck_pw (c 15 7) (9 - (9 - ck_on 9 (ck_xor (c 16 (c 18 (o * 3 + i))) (b i)))) := by
            unfold rs_ft
            rw [eL, kb_xorc (b i), e6, e7]
          rw [eF]
          generalize 9 - ck_on 9 (ck_xor (c 16 (c 18 (o * 3 + i))) (b i)) = L at *
          have i2 := ih (i + 1) (lk + L) (by omega) (by omega) (by omega) (by omega)
          have a1 := ck_pwa (b := c 15 6) (x := lk) (y := L) (by omega) (by omega)
          have a2 := ck_pwa (b := c 15 7) (x := 9 * i - lk) (y := 9 - L) (by omega) (by omega)
          rw [show 9 * i - lk + (9 - L) = 9 * (i + 1) - (lk + L) by omega] at a2
          have es : c 19 o * (ck_pw (c 15 6) lk * ck_pw (c 15 7) (9 * i - lk)) * M * (ck_pw (c 15 6) L * ck_pw (c 15 7) (9 - L)) = c 19 o * (ck_pw (c 15 6) (lk + L) * ck_pw (c 15 7) (9 * (i + 1) - (lk + L))) * M := by
            rw [← a1, ← a2]
            simp only [Int.mul_assoc, Int.mul_comm, Int.mul_left_comm]
          rw [es, show 9 * i + 9 = 9 * (i + 1) by omega]
          exact i2
  have g := go 3 0 0 (by omega) (by omega) (by omega) (by omega)
  have e0 : c 19 o * (ck_pw (c 15 6) 0 * ck_pw (c 15 7) (9 * 0 - 0)) * M = c 19 o * M := by
    rw [show (9 * 0 - 0 : Int) = 0 by omega, ck_pw_0, ck_pw_0, Int.mul_one, Int.mul_one]
  rw [e0, show (9 * 0 : Int) = 0 by omega, show n - 0 = n by omega] at g
  have ex : rs_wx (w 77) b o = rs_wl (w 77) b o n.toNat 0 (c 19 o * M) := by
    unfold rs_wx
    rw [hn, emx, hM, ewt]
  rw [ex]
  exact g
/-- a look of the class, and the same of the reference -/
theorem cj_LK {A R : Nat} {g : ch_G} (hC : ck_Cx g A R) {w w0 w' u : ck_W} (hJ : cj_J A R w) (e0 : ∀ k, k < 70 → w0 k = w k) {r z p : Int} (L : cb_LK A R w0 w' r z p) (rok : 0 ≤ r ∧ r < w 77 0) (k59 : 0 ≤ z ∧ z ≤ 3 → ∀ y, z ≤ y → y ≤ z + 2 → w 59 y ≠ 0) (e76 : u 76 = w 76) (e77 : u 77 = w 77) (W : ∀ y, 0 ≤ y → y ≤ 5 → rm_w2 A R w y (w 77 (10 + y) * A) (cj_cp A w y) u) {cd : Int → Int} {n : Nat} (hn : n = (w 12 r).toNat) (hd : cd = fun k => w 11 (r * 300 + k)) {b c : Int → Int} (bb : rs_bb A R u cd n z p b) (cc : ∀ k, 0 ≤ k → k < w 77 5 → c k = rs_wx (w 77) b k) :
    w' 72 7 = cb_bw c (w 77 5).toNat ∧ (w' 72 7 ≠ -1 → (∀ k, 0 ≤ k → k < w 77 5 → cb_od w' k = rs_wo (w 77 5) c k) ∧ ∀ i, 0 ≤ i → i < 3 → w' 73 i = b i) := by
  have ew : ∀ k, k < 70 → w' k = w k := fun k hk => (L.1 k (Or.inl hk)).trans (e0 k hk)
  have c5 : w 15 5 = w 77 5 := hJ.2.2.1.2.2.1.1
  have er : w 10 3 = w 77 0 := hJ.2.2.2.2.2.1.1
  have f0 := rm_c0 hJ.2.1.2.2.2.1
  have eA : w 76 0 = (A : Int) := hJ.2.1.1
  have ar := cs_ar hC
  have hX : cs_X w := hJ.1.2.1.2.2.2.2.1
  have bx := fun q => cj_bx hC hJ (a2 := z) (a3 := q) e76 e77 k59 W
  rcases L.2 with ⟨npl, m1⟩ | ⟨pl, sp, sh, ch, su, be⟩
  · have nb : ¬ rm_bx u z p := by
      intro x
      have z0 := x.1
      have t := (x.2.2 z (by omega) (by omega)).1
      rw [e77, e76, eA] at t
      have tu := rm_turn hJ.2.1.2.2.2.1 (z := z) (by omega) (by omega)
      have m := Int.mul_le_mul_of_nonneg_right tu.2 (show (0 : Int) ≤ (A : Int) by omega)
      exact npl ⟨by omega, x.2.1, by omega⟩
    have b0 : b 0 = -1 := by
      rcases bb 0 (by omega) (by omega) with x | x
      · rw [show p + 3 * 0 = p by omega] at x; exact absurd x.1 nb
      · exact x.2
    have all : cb_bw c (w 77 5).toNat = -1 := by
      refine cb_bw_z _ (fun k k0 k1 => ?_)
      rw [cc k k0 (by omega)]
      unfold rs_wx
      have lb := rm_lnb (w 77) k
      rw [show (rm_ln (w 77) k).toNat = ((rm_ln (w 77) k).toNat - 1) + 1 by omega, rs_wl]
      by_cases q : w 77 (1300 + 4 * k + 3) * ck_pw (if w 77 8 ≤ w 77 9 then w 77 9 else w 77 8) (9 * (3 - rm_ln (w 77) k)) ≤ 0
      · rw [if_pos q]; exact q
      · rw [if_neg q, b0, if_neg (by decide), rs_wl_n _ _ _ (by decide)]
        decide
    exact ⟨by rw [m1, all], fun x => absurd m1 x⟩
  · have eis : ∀ q, cb_is A w0 z q ↔ cb_is A w z q := fun q => by
      unfold cb_is cs_has
      rw [e0 6 (by decide), e0 61 (by decide)]
    have e103 : w0 10 3 = w 77 0 := by rw [e0 10 (by decide)]; exact er
    have eb : ∀ i, 0 ≤ i → i < 3 → w' 73 i = b i := fun i i0 i1 => by
      rcases sh i i0 i1 with x | x
      · have is : cb_is A w z (p + 3 * i) := (eis _).1 x.1.2
        rcases bb i i0 i1 with y | y
        · rw [x.2.2 (cv_J_all A R w0), y.2.2]
          refine cb_or_e (fun s t s0 s1 t0 t1 => ?_) 9 (by decide)
          have h := is.2 s t s0 s1 t0 t1
          have hz := h.1.1
          have n61 := hJ.1.1.2.2.2.1 (z + s) hz.1 hz.2
          have h2 := h.2
          have Lz := (cj_wz hC hJ hz (W _ hz.1 hz.2) (k59 is.1 _ (by omega) (by omega))).2 (by omega)
          rw [cv_ij_cells (e0 4 (by decide)) (e0 5 (by decide)) (e0 62 (by decide)) (e0 11 (by decide)) (e0 12 (by decide)), e77]
          exact cj_ik hC hJ hz h.1.2 Lz.2.2.2 hn hd
        · exact absurd ((bx _).1 is) y.1
      · rcases bb i i0 i1 with y | y
        · exact absurd ⟨⟨rok.1, by rw [e103]; exact rok.2⟩, (eis _).2 ((bx _).2 y.1)⟩ x.1
        · rw [x.2, y.2]
    have e15 : w0 15 5 = w 77 5 := by rw [e0 15 (by decide)]; exact c5
    have q : ∀ k, 0 ≤ k → k < w 77 5 → (cb_wc w' k 3 0 0 0 = 0 ∧ c k = -1) ∨ (1 ≤ cb_wc w' k 3 0 0 0 ∧ c k = cb_wc w' k 3 0 0 0) := fun k k0 k1 => by
      rw [cc k k0 k1]
      exact cj_wc hJ (fun j _ j1 => ew j (by omega)) eb sp ⟨k0, k1⟩
    rw [e15] at su be ch
    have q' : ∀ k : Int, 0 ≤ k → k < ((w 77 5).toNat : Nat) → (cb_wc w' k 3 0 0 0 = 0 ∧ c k = -1) ∨ (1 ≤ cb_wc w' k 3 0 0 0 ∧ c k = cb_wc w' k 3 0 0 0) := fun k a b => q k a (by omega)
    have X' : cs_X w' := cs_X_fr hX (fun k _ k1 => ew k (by omega))
    have e15' : w' 15 5 = w 77 5 := by rw [ew 15 (by decide)]; exact c5
    refine ⟨by rw [be]; exact cb_bw_q (f := fun k => cb_wc w' k 3 0 0 0) _ q', fun _ => ⟨fun k k0 k1 => ?_, eb⟩⟩
    unfold cb_od rs_wo
    rw [e15', if_pos ⟨k0, k1⟩, ch k k0 k1, su, cs_sm_q (f := fun k => cb_wc w' k 3 0 0 0) (g := c) _ q']
    rcases q k k0 k1 with x | x
    · rw [if_pos x.1, if_neg (by omega)]
    · have sb := cs_sm_b (f := fun k => cb_wc w' k 3 0 0 0) (B := 754934151013713) (w 77 5).toNat (fun i a b => cb_wcb X' sp (by rw [e15']; exact ⟨a, by omega⟩) 3 0 0 0 (by omega) (by omega) (by omega) (by omega))
      have s1 := sb.2.2 k k0 (by omega)
      rw [cs_sm_q (f := fun k => cb_wc w' k 3 0 0 0) (g := c) _ q'] at s1
      have x2 := x.2
      rw [if_neg (by omega), if_pos (by omega)]
      unfold cs_th
      rw [if_neg (by omega), x.2, Int.mul_comm]
theorem J2_joined {g : ch_G} {A R : Nat} (hC : ck_Cx g A R) {w : ck_W} {P : Int → Int → ck_W → Prop} (hJ : cj_J A R w) {a1 a2 a3 a4 : Int} (h4 : ck_i a4) (H : ∀ v w2, cj_J A R w2 → P v v w2) : ck_CI (ch_C g A R) 11 mX11_joined [.inr (.inr 0), .inl a1, .inl a2, .inl a3, .inl a4] w (fun v w1 => ck_CI (ch_C g A R) 11 mX12_joined [.inr (.inr 76), .inl a1, .inl a2, .inl a3, .inl a4] w1 (fun v2 w2 => P v v2 w2)) := by
  obtain ⟨hI, hN, hK, hZ⟩ := hJ.1
  obtain ⟨n1, ⟨n2, n3, n4⟩, n5, ⟨n6, n7⟩, n8, n9⟩ := hN
  have er : w 10 3 = w 77 0 := hJ.2.2.2.2.2.1.1
  have c5 : w 15 5 = w 77 5 := hJ.2.2.1.2.2.1.1
  refine C_joined (d := 4) hC hI n4 n6 n8 h4 (fun w1 w' q i k59 L Q i' => ⟨_, rfl, fun _ => ?_⟩)
  have J1 : cj_J A R w1 := cj_quiet hC hJ (cs_Q_q q) i rm_q_rf
  have J2 : cj_J A R w' := cj_quiet hC hJ Q i' rm_q_rf
  have e79 : w' 79 = w 79 := Q 79 (by omega)
  have e77 : w' 77 = w 77 := Q 77 (by omega)
  have f76 : w' 76 = w1 76 := (Q 76 (by omega)).trans (q 76 (by omega)).symm
  have f77 : w' 77 = w1 77 := e77.trans (q 77 (by omega)).symm
  have f7 : w' 7 = w1 7 := (Q 7 (by omega)).trans (q 7 (by omega)).symm
  have c5' : w' 15 5 = w' 77 5 := J2.2.2.1.2.2.1.1
  have hxx : ∃ e, (0 ≤ a1 ∧ a1 < w' 77 0) → cX (800 * a1) (w' 79 (800 * a1)) e (fun k => w 11 (a1 * 300 + k)) (w' 79) ∧ w 12 a1 = w 79 (800 * a1) + e := by
    by_cases rok : 0 ≤ a1 ∧ a1 < w 77 0
    · obtain ⟨e, hx, h12⟩ := hJ.2.2.2.2.2.2.2.1 a1 rok.1 rok.2
      exact ⟨e, fun _ => ⟨by rw [e79]; exact hx, h12⟩⟩
    · exact ⟨0, fun x => absurd (by rw [e77] at x; exact x) rok⟩
  obtain ⟨e, hx⟩ := hxx
  refine M2_joined (d := 4) (e := e) (cd := fun k => w 11 (a1 * 300 + k)) hC J2.2.1 (cj_cps J2) (fun x => (hx x).1) (fun cnd u w3 f W hq bb cc => ⟨_, rfl, fun _ => ?_⟩) (fun cnd => ⟨_, rfl, fun _ => ?_⟩)
  · have W1 := cj_W f76 f77 f7 W
    have u76 : u 76 = w1 76 := by rw [← f76]; exact f 76 (by decide) (by decide) (by decide) (by decide) (by decide) (by decide) (by decide) (by decide)
    have u77 : u 77 = w1 77 := by rw [← f77]; exact f 77 (by decide) (by decide) (by decide) (by decide) (by decide) (by decide) (by decide) (by decide)
    have lk := cj_LK hC J1 (fun _ _ => rfl) L (by rw [← f77]; exact cnd.1) k59 u76 u77 W1 (cd := fun k => w 11 (a1 * 300 + k)) (n := (w' 79 (800 * a1) + e).toNat) (by rw [q 12 (by decide), (hx cnd.1).2, e79]) (by rw [q 11 (by decide)]) bb (by rw [← f77]; exact cc)
    rw [← f77] at lk
    have E : cb_ja w' a4 = rs_ja (w' 77 5) (w3 95) a4 := by
      have bwb := cb_bwb (w3 95) (w' 77 5).toNat
      unfold cb_ja rs_ja
      rw [lk.1]
      by_cases z : cb_bw (w3 95) (w' 77 5).toNat = -1
      · rw [if_pos z, if_neg (by omega)]
      · have od := (lk.2 (by rw [lk.1]; exact z)).1
        have b2 := bwb.resolve_left z
        rw [if_neg z, if_pos b2.1]
        by_cases z0 : a4 = 0
        · rw [if_pos z0, if_pos z0]
        rw [if_neg z0, if_neg z0]
        by_cases z1 : a4 = 1
        · rw [if_pos z1, if_pos z1]
          exact od _ b2.1 (by omega)
        rw [if_neg z1, if_neg z1]
        exact od _ (by omega) (by omega)
    rw [E]
    exact H _ w3 (cj_quiet hC J2 (fun _ _ => rfl) i' hq)
  · have E : cb_ja w' a4 = -1 := by
      unfold cb_ja
      by_cases z : w' 72 7 = -1
      · rw [if_pos z]
      rw [if_neg z]
      by_cases rok : 0 ≤ a1 ∧ a1 < w' 77 0
      · rw [if_neg (by omega), if_neg (by omega)]
        unfold cb_od
        rw [if_neg (by rw [c5']; omega)]
      · exfalso
        rcases L.2 with ⟨npl, m1⟩ | ⟨pl, sp, sh, ch, su, be⟩
        · exact z m1
        · apply z
          rw [be]
          refine cb_bw_z _ (fun k k0 k1 => ?_)
          have e15 : w1 15 5 = w' 15 5 := by rw [L.1 15 (by decide)]
          have X' : cs_X w' := J2.1.2.1.2.2.2.2.1
          have n5 := X'.2.2.2.1
          have xo := X'.2.2.2.2 k k0 (by omega)
          have s0 : w' 73 0 = -1 := by
            rcases sh 0 (by omega) (by omega) with x | x
            · refine absurd x.1.1 (fun y => rok ⟨y.1, ?_⟩)
              have y2 := y.2
              rw [q 10 (by decide), er, ← e77] at y2
              exact y2
            · exact x.2
          show cb_wc w' k 3 0 0 0 ≤ 0
          rw [cb_wc, Int.add_zero, if_neg (by omega), if_pos s0]
          decide
    rw [E]
    exact H _ w' J2
