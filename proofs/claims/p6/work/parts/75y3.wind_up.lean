/-! ===== both windings: the best way by the greatest radius ===== -/
/-- the greatest change by which a best way goes on -/
def rE (A R : Nat) (n : Int) (g : Int → Int → Int) (pn : Int → Int) (l : Nat) (r c : Int) : Int := if rn A R n g pn l r c 1 then 1 else if rn A R n g pn l r c 0 then 0 else -1
def rP (A R : Nat) (n : Int) (g : Int → Int → Int) (pn : Int → Int) : Nat → Int → Int → Nat → Int
  | _, r, _, 0 => r
  | 0, r, _, _ + 1 => r
  | l + 1, r, c, j + 1 => rP A R n g pn l (r + rE A R n g pn l r c) (rm_nc (cw_N A) c (rE A R n g pn l r c)) j
def rQ (A R : Nat) (n : Int) (g : Int → Int → Int) (pn : Int → Int) : Nat → Int → Int → Nat → Int × Int
  | _, r, c, 0 => (r, c)
  | 0, r, c, _ + 1 => (r, c)
  | l + 1, r, c, j + 1 => rQ A R n g pn l (r + rE A R n g pn l r c) (rm_nc (cw_N A) c (rE A R n g pn l r c)) j
theorem rP_rQ {A R : Nat} {n : Int} {g : Int → Int → Int} {pn : Int → Int} : ∀ (l : Nat) (r c : Int) (j : Nat), rP A R n g pn l r c j = (rQ A R n g pn l r c j).1
  | l, r, c, 0 => by rw [rP, rQ]
  | 0, r, c, j + 1 => by rw [rP, rQ]
  | l + 1, r, c, j + 1 => by rw [rP, rQ, rP_rQ l]
theorem rP_add {A R : Nat} {n : Int} {g : Int → Int → Int} {pn : Int → Int} : ∀ (m l : Nat) (r c : Int) (j : Nat), rP A R n g pn (l + m) r c (m + j) = rP A R n g pn l (rQ A R n g pn (l + m) r c m).1 (rQ A R n g pn (l + m) r c m).2 j
  | 0, l, r, c, j => by simp only [rQ, Nat.zero_add, Nat.add_zero]
  | m + 1, l, r, c, j => by
    rw [show l + (m + 1) = (l + m) + 1 by omega, show m + 1 + j = (m + j) + 1 by omega, rP, rQ]
    exact rP_add m l _ _ j
theorem cw_ff_gt {ok : Int → Bool} {a d : Int} : ∀ (n : Nat) (i j : Int), i ≤ j → j < i + n → ok (a - j) = true → a - j ≤ cw_ff ok (fun i => a - i) d n i
  | 0, i, j, h0, h1, _ => by omega
  | n + 1, i, j, h0, h1, h => by
    rw [cw_ff]
    by_cases q : ok (a - i) = true
    · rw [if_pos q]; omega
    · rw [if_neg q]
      have e : j ≠ i := fun z => q (by rw [← z]; exact h)
      exact cw_ff_gt n (i + 1) j (by omega) (by omega) h
theorem trE_eq {A R : Nat} (hA : 3 ≤ A ∧ A ≤ 6) {K : Int} (hK : 1 ≤ K ∧ K ≤ 4) {g : Int → Int → Int} {pn : Int → Int} {G : Int → Int → Int} (hg : ∀ p r, 0 ≤ g p r) (hGv : cw_Gv R G) (hG : ∀ p r, 0 ≤ p → p < K * (A : Int) → 0 ≤ r → r < (R : Int) → G p r = if pn p < 0 ∨ pn p = r then g p r * 1048576 else -1) : ∀ (l k : Nat) (r c : Int), (l : Int) ≤ K * (A : Int) - (A : Int) → 0 ≤ c ∧ c < cw_N A → wv A R (K * (A : Int) - (A : Int) - l) r c → cw_A A R K G l r c ≠ 0 → k < l → cw_tv A R K G true l r c k = rP A R (K * (A : Int)) g pn l (r + cw_sh A c (A - 1)) c (k + 1)
  | 0, k, r, c, _, _, _, _, h => by omega
  | l + 1, k, r, c, hl, hc, v, hne, hk => by
    have mA : K * (A : Int) ≤ 24 := by
      rcases (by omega : A = 3 ∨ A = 4 ∨ A = 5 ∨ A = 6) with rfl | rfl | rfl | rfl <;> omega
    have e := dp_eq hA hK.1 hg hG (l + 1) r c hl hc v
    rw [show K * (A : Int) - 1 - ((l + 1 : Nat) : Int) = K * (A : Int) - 2 - l by omega] at e
    have hF : 0 ≤ (rf_F A R (K * (A : Int)) g pn (l + 1) (r + cw_sh A c (A - 1)) c).1 := by
      by_cases q : (rf_F A R (K * (A : Int)) g pn (l + 1) (r + cw_sh A c (A - 1)) c).1 < 0
      · unfold ec1 at e
        rw [if_pos q] at e
        exact absurd e.symm hne
      · omega
    have Y := dp_yh hA hg hG l (fun r c hc v => dp_eq hA hK.1 hg hG l r c (by omega) hc v) hl hc v
    have ci := cw_ch_in (A := A) (R := R) (fa := true) hGv mA (l := l) (r := r) (c := c) (by omega) hne
    have co := cw_ch_ok (A := A) (R := R) (fa := true) hGv mA (l := l) (r := r) (c := c) (by omega) hne
    have l0 : 0 ≤ cw_lc A c := by unfold cw_lc; omega
    -- the same change
    have same : cw_ch A R K G true l r c - 1 = rE A R (K * (A : Int)) g pn l (r + cw_sh A c (A - 1)) c := by
      have nn : ∀ ch : Nat, ch < 3 → (rn A R (K * (A : Int)) g pn l (r + cw_sh A c (A - 1)) c ((ch : Int) - 1) ↔ cw_lc A c ≤ ch ∧ cw_on R G (cw_A A R K G l (r + cw_sh A c 1) (cw_ta A c + ch)) (K * (A : Int) - (l + 1)) (r + cw_sh A c (A - 1) - 1 + ch) ≠ 0 ∧ cw_on R G (cw_A A R K G l (r + cw_sh A c 1) (cw_ta A c + ch)) (K * (A : Int) - (l + 1)) (r + cw_sh A c (A - 1) - 1 + ch) / 1048576 = cw_A A R K G (l + 1) r c / 1048576) := by
        intro ch hch
        rw [rn_y hg hF, e, Y ch hch]
        by_cases q : cw_lc A c ≤ ch
        · rw [if_pos q]
          exact ⟨fun z => ⟨q, z⟩, fun z => z.2⟩
        · rw [if_neg q]
          exact ⟨fun z => absurd rfl z.1, fun z => absurd z.1 q⟩
      have gt : ∀ ch : Nat, ch < 3 → cw_ch A R K G true l r c < ch → ¬ rn A R (K * (A : Int)) g pn l (r + cw_sh A c (A - 1)) c ((ch : Int) - 1) := by
        intro ch hch lt hr
        obtain ⟨q1, q2⟩ := (nn ch hch).mp hr
        have tid : (fun i : Int => if (true : Bool) = true then 2 + cw_lc A c - i else i) = fun i => 2 + cw_lc A c - i := by funext i; rfl
        have x := cw_ff_gt (ok := fun ch => decide (cw_on R G (cw_A A R K G l (r + cw_sh A c 1) (cw_ta A c + ch)) (K * (A : Int) - (l + 1)) (r + cw_sh A c (A - 1) - 1 + ch) ≠ 0 ∧ cw_on R G (cw_A A R K G l (r + cw_sh A c 1) (cw_ta A c + ch)) (K * (A : Int) - (l + 1)) (r + cw_sh A c (A - 1) - 1 + ch) / 1048576 = cw_A A R K G (l + 1) r c / 1048576)) (a := 2 + cw_lc A c) (d := 1) (3 - cw_lc A c).toNat (cw_lc A c) (2 + cw_lc A c - ch) (by omega) (by omega) (by
          rw [show 2 + cw_lc A c - (2 + cw_lc A c - (ch : Int)) = ch by omega]
          exact decide_eq_true q2)
        unfold cw_ch at lt
        rw [tid] at lt
        omega
      have cc : cw_ch A R K G true l r c = 0 ∨ cw_ch A R K G true l r c = 1 ∨ cw_ch A R K G true l r c = 2 := by omega
      have lb := ci.2.1.1
      have g1 := gt 1 (by decide)
      have g2 := gt 2 (by decide)
      have n1 := nn 1 (by decide)
      have n2 := nn 2 (by decide)
      rw [show (((1 : Nat) : Int) - 1) = 0 by decide] at g1 n1
      rw [show (((2 : Nat) : Int) - 1) = 1 by decide] at g2 n2
      unfold rE
      rcases cc with q | q | q
      · rw [q] at g1 g2 ⊢
        rw [if_neg (g2 (by decide)), if_neg (g1 (by decide))]; rfl
      · rw [q] at g2 co lb ⊢
        rw [if_neg (g2 (by decide)), if_pos (n1.mpr ⟨lb, co⟩)]; rfl
      · rw [q] at co lb ⊢
        rw [if_pos (n2.mpr ⟨lb, co⟩)]; rfl
    have kq := (cw_cqs hA hc).2 (cw_ch A R K G true l r c).toNat (by omega)
    have cn : (((cw_ch A R K G true l r c).toNat : Nat) : Int) = cw_ch A R K G true l r c := by omega
    rw [cn] at kq
    match k, hk with
    | 0, _ =>
      rw [cw_tv, rP, ← same]
      show _ = rP A R (K * (A : Int)) g pn l _ _ 0
      rw [rP]
      omega
    | k + 1, hk =>
      have on := cw_on_ne ci.2.2
      have up : r < r + cw_sh A c (A - 1) + (cw_ch A R K G true l r c).toNat - 1 := by
        have := ci.2.1.1
        unfold cw_lc at this
        omega
      have vn := wv_next hA (by omega) hc v (ch := (cw_ch A R K G true l r c).toNat) (by omega) (by omega) up
      rw [show K * (A : Int) - (A : Int) - ((l + 1 : Nat) : Int) + 1 = K * (A : Int) - (A : Int) - (l : Int) by omega, cn] at vn
      have tb := cw_tab3 hA hc (ch := (cw_ch A R K G true l r c).toNat) (by omega)
      rw [cn] at tb
      rw [cw_tv, rP, ← same, trE_eq hA hK hg hGv hG l k (r + cw_sh A c 1) (cw_ta A c + cw_ch A R K G true l r c) (by omega) tb vn on.2.1 (by omega), show r + cw_sh A c 1 + cw_sh A (cw_ta A c + cw_ch A R K G true l r c) (A - 1) = r + cw_sh A c (A - 1) + (cw_ch A R K G true l r c - 1) by omega, kq.1]
theorem t0E {A R : Nat} (hA : 3 ≤ A ∧ A ≤ 6) {K : Int} (hK : 1 ≤ K ∧ K ≤ 4) {g : Int → Int → Int} {pn : Int → Int} {G : Int → Int → Int} (hg : ∀ p r, 0 ≤ g p r) (hGv : cw_Gv R G) (hG : ∀ p r, 0 ≤ p → p < K * (A : Int) → 0 ≤ r → r < (R : Int) → G p r = if pn p < 0 ∨ pn p = r then g p r * 1048576 else -1) : ∀ (m p : Nat) (r0 x : Int), p + m + 1 = A → 0 ≤ x ∧ x < ((3 ^ p : Nat) : Int) → (∀ j : Nat, j ≤ p → 0 ≤ r0 + cw_sh A (x * wB A p) j ∧ r0 + cw_sh A (x * wB A p) j < (R : Int)) → (pn p < 0 ∨ pn p = r0 + cw_sh A (x * wB A p) p) → 0 ≤ (rf_F A R (K * (A : Int)) g pn (K * (A : Int) - 1 - p).toNat (r0 + cw_sh A (x * wB A p) p) (wc A p x)).1 → ∀ c1, (x * wB A p ≤ c1 ∧ c1 < x * wB A p + wB A p) → (wX A R K G r0 p c1 ≠ 0 ∧ wX A R K G r0 p c1 / 1048576 = (rf_F A R (K * (A : Int)) g pn (K * (A : Int) - 1 - p).toNat (r0 + cw_sh A (x * wB A p) p) (wc A p x)).1) → (∀ c, x * wB A p ≤ c → c < x * wB A p + wB A p → (wX A R K G r0 p c ≠ 0 ∧ wX A R K G r0 p c / 1048576 = (rf_F A R (K * (A : Int)) g pn (K * (A : Int) - 1 - p).toNat (r0 + cw_sh A (x * wB A p) p) (wc A p x)).1) → c ≤ c1) → rQ A R (K * (A : Int)) g pn (K * (A : Int) - 1 - p).toNat (r0 + cw_sh A (x * wB A p) p) (wc A p x) m = (r0 + cw_sh A c1 (A - 1), c1) ∧ ∀ j, j ≤ m → (rQ A R (K * (A : Int)) g pn (K * (A : Int) - 1 - p).toNat (r0 + cw_sh A (x * wB A p) p) (wc A p x) j).1 = r0 + cw_sh A c1 (p + j) := by
  have mA := w_mA hA hK
  intro m
  induction m with
  | zero =>
    intro p r0 x hp hx hr pk hF c1 hc1 hk1 hm1
    have ep : p = A - 1 := by omega
    subst ep
    have b1 : wB A (A - 1) = 1 := wB_l (by omega)
    rw [b1, Int.mul_one] at hc1 ⊢
    have xc : wc A (A - 1) x = x := by
      unfold wc
      rw [show A - 1 - (A - 1) = 0 by omega]
      simp
    rw [xc]
    have e1 : c1 = x := by omega
    refine ⟨by rw [rQ, e1], fun j hj => ?_⟩
    rw [show j = 0 by omega, rQ, e1]
    rfl
  | succ m ih =>
    intro p r0 x hp hx hr pk hF c1 hc1 hk1 hm1
    have hp1 : p + 1 < A := by omega
    have b3 := wB_3 hp1
    have bp := wB_pos A (p + 1)
    have rp := hr p (Nat.le_refl _)
    have g0 := hg (p : Int) (r0 + cw_sh A (x * wB A p) p)
    have wo : ∀ c, cw_ok 1000 (wX A R K G r0 (p + 1) c) := fun c => wX_ok hA hK hGv r0 (p + 1) c (by omega)
    have el2 : (K * (A : Int) - 1 - (p : Int)).toNat = (K * (A : Int) - 2 - p).toNat + 1 := by omega
    have Lp : K * (A : Int) - 2 - (((K * (A : Int) - 2 - p).toNat : Nat) : Int) = p := by omega
    have wpe : ∀ c, x * wB A p ≤ c → c < x * wB A p + wB A p → wX A R K G r0 p c = sf (g p (r0 + cw_sh A (x * wB A p) p)) (wX A R K G r0 (p + 1) c) := fun c c0 c2 => by rw [w_el hA hK hg hGv hG hp1 hx rp c0 c2, if_pos pk]
    have z : ∀ e : Int, 0 ≤ e ∧ e ≤ 2 → cw_fo (wX A R K G r0 (p + 1)) (wB A (p + 1)).toNat ((3 * x + e) * wB A (p + 1)) 0 = rf_y A R pn (rf_F A R (K * (A : Int)) g pn (K * (A : Int) - 2 - p).toNat) p (r0 + cw_sh A (x * wB A p) p) (wc A p x) (e - 1) := fun e he => w_zh hA hK hg hGv hG hp1 hx hr he (fun hr2 => w_pre hA hK hg hGv hG m (p + 1) r0 (3 * x + e) (by omega) ⟨by omega, by rw [Nat.pow_succ]; omega⟩ hr2)
    rw [el2] at hF hk1 hm1 ⊢
    generalize hL : (K * (A : Int) - 2 - p).toNat = L at *
    generalize hv : (rf_F A R (K * (A : Int)) g pn (L + 1) (r0 + cw_sh A (x * wB A p) p) (wc A p x)).1 = v at *
    have s := rf_F_s (A := A) (R := R) (n := K * (A : Int)) (pn := pn) hg L (r0 + cw_sh A (x * wB A p) p) (wc A p x)
    have ok := rf_F_ok (A := A) (R := R) (n := K * (A : Int)) (pn := pn) hg (L + 1) (r0 + cw_sh A (x * wB A p) p) (wc A p x)
    rw [Lp] at s
    rw [show K * (A : Int) - 1 - ((L + 1 : Nat) : Int) = p by omega] at ok
    have q1 : ec1 (g p (r0 + cw_sh A (x * wB A p) p)) (rf_F A R (K * (A : Int)) g pn (L + 1) (r0 + cw_sh A (x * wB A p) p) (wc A p x)) / 1048576 = v - g p (r0 + cw_sh A (x * wB A p) p) := by
      unfold ec1
      rw [hv, if_neg (by omega)]
      rcases ok with y | y
      · rw [hv] at y; omega
      · rw [hv] at y; omega
    have zo : ∀ e : Int, 0 ≤ e ∧ e ≤ 2 → cw_ok 1000 (rf_y A R pn (rf_F A R (K * (A : Int)) g pn L) p (r0 + cw_sh A (x * wB A p) p) (wc A p x) (e - 1)) := fun e he => by
      rw [← z e he]
      exact cw_fo_ok _ _ _ (Or.inl rfl) (fun c _ _ => wo c)
    have o0 := zo 0 (by decide)
    have o1 := zo 1 (by decide)
    have o2 := zo 2 (by decide)
    rw [show (0 : Int) - 1 = -1 by decide] at o0
    rw [show (1 : Int) - 1 = 0 by decide] at o1
    rw [show (2 : Int) - 1 = 1 by decide] at o2
    have zle : ∀ e : Int, 0 ≤ e ∧ e ≤ 2 → rf_y A R pn (rf_F A R (K * (A : Int)) g pn L) p (r0 + cw_sh A (x * wB A p) p) (wc A p x) (e - 1) / 1048576 ≤ v - g p (r0 + cw_sh A (x * wB A p) p) := by
      intro e he
      rw [← q1, s]
      have a := cw_bt_le o0 o1
      have b := cw_bt_le (cw_bt_ok o0 o1) o2
      rcases (by omega : e = 0 ∨ e = 1 ∨ e = 2) with rfl | rfl | rfl
      · rw [show (0 : Int) - 1 = -1 by decide]; exact Int.le_trans a.1 b.1
      · rw [show (1 : Int) - 1 = 0 by decide]; exact Int.le_trans a.2 b.1
      · rw [show (2 : Int) - 1 = 1 by decide]; exact b.2
    -- a range has one of the best just where the reference may go on so
    have hit : ∀ e : Int, 0 ≤ e ∧ e ≤ 2 → ((∃ c, ((3 * x + e) * wB A (p + 1) ≤ c ∧ c < (3 * x + e) * wB A (p + 1) + wB A (p + 1)) ∧ wX A R K G r0 p c ≠ 0 ∧ wX A R K G r0 p c / 1048576 = v) ↔ rn A R (K * (A : Int)) g pn L (r0 + cw_sh A (x * wB A p) p) (wc A p x) (e - 1)) := by
      intro e he
      have nb1 : ((wB A (p + 1)).toNat : Int) = wB A (p + 1) := by omega
      have h1 := cw_fo_hit (B := 1000) (f := wX A R K G r0 (p + 1)) (n := (wB A (p + 1)).toNat) (i := (3 * x + e) * wB A (p + 1)) (v := v - g p (r0 + cw_sh A (x * wB A p) p)) (fun c _ _ => wo c) (by rw [z e he]; exact zle e he)
      rw [z e he, nb1] at h1
      have h2 := rn_y (A := A) (R := R) (n := K * (A : Int)) (pn := pn) hg (l := L) (r := r0 + cw_sh A (x * wB A p) p) (c := wc A p x) (e := e - 1) (by rw [hv]; exact hF)
      rw [Lp, q1] at h2
      rw [show rn A R (K * (A : Int)) g pn L (r0 + cw_sh A (x * wB A p) p) (wc A p x) (e - 1) ↔ _ from h2, ← h1]
      constructor
      · rintro ⟨c, hc, a, b⟩
        have sb := w_sub hA hp1 hx he hc.1 hc.2
        have d := sf_d g0 (wo c)
        rw [wpe c sb.1.1 sb.1.2] at a b
        have nz : wX A R K G r0 (p + 1) c ≠ 0 := fun y => a (d.1.mpr y)
        exact ⟨c, hc, nz, by have := d.2 nz; omega⟩
      · rintro ⟨c, hc, a, b⟩
        have sb := w_sub hA hp1 hx he hc.1 hc.2
        have d := sf_d g0 (wo c)
        refine ⟨c, hc, ?_, ?_⟩
        · rw [wpe c sb.1.1 sb.1.2]; exact fun y => a (d.1.mp y)
        · rw [wpe c sb.1.1 sb.1.2, d.2 a]; omega
    have b3x : x * wB A p = 3 * x * wB A (p + 1) := by rw [b3, ← Int.mul_assoc, Int.mul_comm x 3]
    have k0 : (3 * x + 0) * wB A (p + 1) = x * wB A p := by rw [Int.add_zero, b3x]
    have k1 : (3 * x + 1) * wB A (p + 1) = x * wB A p + wB A (p + 1) := by rw [Int.add_mul, b3x, Int.one_mul]
    have k2 : (3 * x + 2) * wB A (p + 1) = x * wB A p + wB A (p + 1) + wB A (p + 1) := by rw [Int.add_mul, b3x]; omega
    -- no range above has one
    have dead : ∀ e : Int, 0 ≤ e ∧ e ≤ 2 → c1 < (3 * x + e) * wB A (p + 1) → ¬ rn A R (K * (A : Int)) g pn L (r0 + cw_sh A (x * wB A p) p) (wc A p x) (e - 1) := fun e he lt hn => by
      obtain ⟨c, hc, hc2⟩ := (hit e he).mpr hn
      have sb := w_sub hA hp1 hx he hc.1 hc.2
      have := hm1 c sb.1.1 sb.1.2 hc2
      omega
    -- the rest, once the range of c1 is known
    have go : ∀ e : Int, 0 ≤ e ∧ e ≤ 2 → ((3 * x + e) * wB A (p + 1) ≤ c1 ∧ c1 < (3 * x + e) * wB A (p + 1) + wB A (p + 1)) → (rn A R (K * (A : Int)) g pn L (r0 + cw_sh A (x * wB A p) p) (wc A p x) (e - 1) → rE A R (K * (A : Int)) g pn L (r0 + cw_sh A (x * wB A p) p) (wc A p x) = e - 1) → rQ A R (K * (A : Int)) g pn (L + 1) (r0 + cw_sh A (x * wB A p) p) (wc A p x) (m + 1) = (r0 + cw_sh A c1 (A - 1), c1) ∧ ∀ j, j ≤ m + 1 → (rQ A R (K * (A : Int)) g pn (L + 1) (r0 + cw_sh A (x * wB A p) p) (wc A p x) j).1 = r0 + cw_sh A c1 (p + j) := by
      intro e he hin hre0
      have hn := (hit e he).mp ⟨c1, hin, hk1⟩
      have hre := hre0 hn
      have self := w_sub hA hp1 hx he (c := (3 * x + e) * wB A (p + 1)) (Int.le_refl _) (by omega)
      have inr := w_sub hA hp1 hx he hin.1 hin.2
      have hn2 := hn
      obtain ⟨⟨g1, g2, g3⟩, h2, h3⟩ := hn2
      rw [wc_next hA hp1 hx he, hv, Lp] at *
      have er : r0 + cw_sh A ((3 * x + e) * wB A (p + 1)) (p + 1) = r0 + cw_sh A (x * wB A p) p + (e - 1) := by rw [self.2]; omega
      have cv : ∀ c, (3 * x + e) * wB A (p + 1) ≤ c → c < (3 * x + e) * wB A (p + 1) + wB A (p + 1) → ((wX A R K G r0 p c ≠ 0 ∧ wX A R K G r0 p c / 1048576 = v) ↔ (wX A R K G r0 (p + 1) c ≠ 0 ∧ wX A R K G r0 (p + 1) c / 1048576 = (rf_F A R (K * (A : Int)) g pn L (r0 + cw_sh A (x * wB A p) p + (e - 1)) (wc A (p + 1) (3 * x + e))).1)) := fun c c0 c2 => by
        have sb := w_sub hA hp1 hx he c0 c2
        have d := sf_d g0 (wo c)
        rw [wpe c sb.1.1 sb.1.2]
        refine ⟨fun y => ?_, fun y => ?_⟩
        · have nz : wX A R K G r0 (p + 1) c ≠ 0 := fun z => y.1 (d.1.mpr z)
          exact ⟨nz, by have := d.2 nz; omega⟩
        · exact ⟨fun z => y.1 (d.1.mp z), by rw [d.2 y.1]; omega⟩
      have i := ih (p + 1) r0 (3 * x + e) (by omega) ⟨by omega, by rw [Nat.pow_succ]; omega⟩ (fun j hj => by
        by_cases q : j = p + 1
        · rw [q, self.2]; omega
        · rw [(w_cd hA (by omega) hx self.1.1 self.1.2).2 j (by omega)]; exact hr j (by omega)) (by rw [er, show ((p + 1 : Nat) : Int) = (p : Int) + 1 by omega]; exact g2) (by
          rw [er, show (K * (A : Int) - 1 - ((p + 1 : Nat) : Int)).toNat = L by omega]; exact h2) c1 hin (by
          rw [er, show (K * (A : Int) - 1 - ((p + 1 : Nat) : Int)).toNat = L by omega]
          exact (cv c1 hin.1 hin.2).mp hk1) (fun c c0 c2 y => by
          rw [er, show (K * (A : Int) - 1 - ((p + 1 : Nat) : Int)).toNat = L by omega] at y
          have sb := w_sub hA hp1 hx he c0 c2
          exact hm1 c sb.1.1 sb.1.2 ((cv c c0 c2).mpr y))
      rw [er, show (K * (A : Int) - 1 - ((p + 1 : Nat) : Int)).toNat = L by omega] at i
      refine ⟨?_, fun j hj => ?_⟩
      · rw [rQ, hre, wc_next hA hp1 hx he]
        exact i.1
      · match j, hj with
        | 0, _ =>
          rw [rQ, Nat.add_zero, (w_cd hA (by omega) hx inr.1.1 inr.1.2).2 p (Nat.le_refl _)]
        | j + 1, hj =>
          rw [rQ, hre, wc_next hA hp1 hx he, i.2 j (by omega), show p + 1 + j = p + (j + 1) by omega]
    have d1 := dead 1 (by decide)
    have d2 := dead 2 (by decide)
    rw [k1, show (1 : Int) - 1 = 0 by decide] at d1
    rw [k2, show (2 : Int) - 1 = 1 by decide] at d2
    by_cases a : c1 < x * wB A p + wB A (p + 1)
    · refine go 0 (by decide) (by rw [k0]; exact ⟨hc1.1, a⟩) (fun _ => ?_)
      unfold rE
      rw [if_neg (d2 (by omega)), if_neg (d1 a)]; rfl
    · by_cases b : c1 < x * wB A p + wB A (p + 1) + wB A (p + 1)
      · refine go 1 (by decide) (by rw [k1]; exact ⟨by omega, b⟩) (fun y => ?_)
        rw [show (1 : Int) - 1 = 0 by decide] at y
        unfold rE
        rw [if_neg (d2 b), if_pos y]; rfl
      · refine go 2 (by decide) (by rw [k2]; exact ⟨by omega, by omega⟩) (fun y => ?_)
        rw [show (2 : Int) - 1 = 1 by decide] at y
        unfold rE
        rw [if_pos y]; rfl
theorem trE_all {A R : Nat} (hA : 3 ≤ A ∧ A ≤ 6) (hR : 4 ≤ R ∧ R ≤ 12) {K : Int} (hK : 1 ≤ K ∧ K ≤ 4) {g : Int → Int → Int} {pn : Int → Int} {G : Int → Int → Int} (hg : ∀ p r, 0 ≤ g p r) (hGv : cw_Gv R G) (hG : ∀ p r, 0 ≤ p → p < K * (A : Int) → 0 ≤ r → r < (R : Int) → G p r = if pn p < 0 ∨ pn p = r then g p r * 1048576 else -1) {r0 : Int} (h0 : 0 ≤ r0 ∧ r0 < (R : Int)) (h1 : (pn 0 < 0 ∨ pn 0 = r0) ∧ (rf_F A R (K * (A : Int)) g pn (K * (A : Int) - 1).toNat r0 (wst A)).1 = cw_be A R K G / 1048576) (h2 : ∀ r, r0 < r → r < (R : Int) → ¬ ((pn 0 < 0 ∨ pn 0 = r) ∧ (rf_F A R (K * (A : Int)) g pn (K * (A : Int) - 1).toNat r (wst A)).1 = cw_be A R K G / 1048576)) (p : Int) (p0 : 0 ≤ p) (p1 : p < K * (A : Int)) : cw_tr A R K G true p = rP A R (K * (A : Int)) g pn (K * (A : Int) - 1).toNat r0 (wst A) p.toNat := by
  have mA := w_mA hA hK
  have hN := cw_Nb hA
  have hit := fun r a b => row_hit hA hR hK hg hGv hG r a b
  obtain ⟨c, hc, hc2⟩ := (hit r0 h0.1 h0.2).mpr h1
  -- not too far out
  have far : r0 ≤ (R : Int) - K := by
    by_cases q : (R : Int) - K < r0
    · exfalso
      have f := w_far hA hK hg hGv hG r0 h0.1 q h0.2
      exact cw_fo_nz (B := 1000) (cw_N A).toNat 0 0 (fun j _ _ => wX_ok hA hK hGv r0 0 j (by omega)) c hc.1 (by omega) hc2.1 (Or.inl rfl) f
    · omega
  have okd : ∀ r c, 0 ≤ c → c < cw_N A → (decide (cw_wi A R K G (c + r * cw_N A) ≠ 0 ∧ cw_wi A R K G (c + r * cw_N A) / 1048576 = cw_be A R K G / 1048576)) = decide (wX A R K G r 0 c ≠ 0 ∧ wX A R K G r 0 c / 1048576 = cw_be A R K G / 1048576) := fun r c a b => by rw [w_wi hA K G r c a b]
  have tid : (fun i : Int => if (true : Bool) = true then ((R : Int) - K + 1) * cw_N A - 1 - i else i) = fun i => ((R : Int) - K + 1) * cw_N A - 1 - i := by funext i; rfl
  have w0e : cw_w0 A R K G true = cw_ff (fun i => decide (cw_wi A R K G i ≠ 0 ∧ cw_wi A R K G i / 1048576 = cw_be A R K G / 1048576)) (fun i => ((R : Int) - K + 1) * cw_N A - 1 - i) 0 (((R : Int) - K + 1) * cw_N A).toNat 0 := by
    unfold cw_w0
    rw [tid]
  have T1 : (r0 + 1) * cw_N A ≤ ((R : Int) - K + 1) * cw_N A := Int.mul_le_mul_of_nonneg_right (by omega) (by omega)
  rw [Int.add_mul r0, Int.one_mul] at T1
  have r0N : 0 ≤ r0 * cw_N A := Int.mul_nonneg h0.1 (by omega)
  generalize hT : ((R : Int) - K + 1) * cw_N A = T at *
  have yes : ∀ c, 0 ≤ c → c < cw_N A → (wX A R K G r0 0 c ≠ 0 ∧ wX A R K G r0 0 c / 1048576 = cw_be A R K G / 1048576) → decide (cw_wi A R K G (T - 1 - (T - 1 - (c + r0 * cw_N A))) ≠ 0 ∧ cw_wi A R K G (T - 1 - (T - 1 - (c + r0 * cw_N A))) / 1048576 = cw_be A R K G / 1048576) = true := fun c a b y => by
    rw [show T - 1 - (T - 1 - (c + r0 * cw_N A)) = c + r0 * cw_N A by omega, okd r0 c a b]
    exact decide_eq_true y
  have I := cw_ff_in (ok := fun i => decide (cw_wi A R K G i ≠ 0 ∧ cw_wi A R K G i / 1048576 = cw_be A R K G / 1048576)) (t := fun i => T - 1 - i) (dflt := 0) T.toNat 0 (T - 1 - (c + r0 * cw_N A)) (by omega) (by omega) (yes c hc.1 hc.2 hc2)
  have Gt : ∀ c, 0 ≤ c → c < cw_N A → (wX A R K G r0 0 c ≠ 0 ∧ wX A R K G r0 0 c / 1048576 = cw_be A R K G / 1048576) → c + r0 * cw_N A ≤ cw_w0 A R K G true := fun c a b y => by
    have x := cw_ff_gt (ok := fun i => decide (cw_wi A R K G i ≠ 0 ∧ cw_wi A R K G i / 1048576 = cw_be A R K G / 1048576)) (a := T - 1) (d := 0) T.toNat 0 (T - 1 - (c + r0 * cw_N A)) (by omega) (by omega) (yes c a b y)
    rw [w0e]
    omega
  rw [← w0e] at I
  obtain ⟨I1, k, I2, I3⟩ := I
  have Gc := Gt c hc.1 hc.2 hc2
  generalize hw : cw_w0 A R K G true = W at *
  have m0 := Int.emod_nonneg W (b := cw_N A) (by omega)
  have m1 := Int.emod_lt_of_pos W (b := cw_N A) (by omega)
  have we : W = W % cw_N A + W / cw_N A * cw_N A := by
    have := Int.mul_ediv_add_emod W (cw_N A)
    rw [Int.mul_comm] at this
    omega
  have q0 : 0 ≤ W / cw_N A := Int.ediv_nonneg (by omega) (by omega)
  have q1 : W / cw_N A < (R : Int) := by
    refine Int.ediv_lt_of_lt_mul (by omega) ?_
    have : T ≤ (R : Int) * cw_N A := by rw [← hT]; exact Int.mul_le_mul_of_nonneg_right (by omega) (by omega)
    omega
  have I1x := I1
  rw [we, okd _ _ m0 m1] at I1x
  have d1 : W / cw_N A = r0 := by
    have up : ¬ r0 < W / cw_N A := fun lt => h2 _ lt q1 ((hit _ q0 q1).mp ⟨_, ⟨m0, m1⟩, of_decide_eq_true I1x⟩)
    have dn : ¬ W / cw_N A < r0 := fun lt => by
      have : (W / cw_N A + 1) * cw_N A ≤ r0 * cw_N A := Int.mul_le_mul_of_nonneg_right (by omega) (by omega)
      rw [Int.add_mul, Int.one_mul] at this
      omega
    omega
  rw [d1] at I1x we
  have I1y := of_decide_eq_true I1x
  generalize hc1 : W % cw_N A = c1 at *
  have z : cw_sh A 0 0 = 0 := rfl
  have b0 : 0 ≤ cw_be A R K G / 1048576 := by
    rw [← hc2.2]
    rcases cw_ok_v (wX_ok hA hK hGv r0 0 c (by omega)) with z | ⟨f, w, k, z⟩
    · rw [z]; decide
    · omega
  have Tt := t0E hA hK hg hGv hG (A - 1) 0 r0 0 (by omega) ⟨Int.le_refl _, by decide⟩ (fun j hj => by rw [show j = 0 by omega, Int.zero_mul, z]; omega) (by rw [Int.zero_mul, z, Int.add_zero]; exact h1.1) (by rw [Int.zero_mul, z, Int.add_zero, wc_0, show K * (A : Int) - 1 - ((0 : Nat) : Int) = K * (A : Int) - 1 by omega, h1.2]; exact b0) c1 (by rw [wB_0]; omega) (by rw [Int.zero_mul, z, Int.add_zero, wc_0, show K * (A : Int) - 1 - ((0 : Nat) : Int) = K * (A : Int) - 1 by omega, h1.2]; exact I1y) (fun c c0 c2 y => by
    rw [Int.zero_mul, z, Int.add_zero, wc_0, show K * (A : Int) - 1 - ((0 : Nat) : Int) = K * (A : Int) - 1 by omega, h1.2] at y
    rw [wB_0] at c2
    have := Gt c (by omega) (by omega) y
    omega)
  rw [Int.zero_mul, z, wc_0, Int.add_zero, show K * (A : Int) - 1 - ((0 : Nat) : Int) = K * (A : Int) - 1 by omega] at Tt
  obtain ⟨t2, t3⟩ := Tt
  unfold cw_tr
  rw [hw, d1, hc1]
  by_cases q : p < (A : Int)
  · rw [if_pos q, rP_rQ]
    have := t3 p.toNat (by omega)
    rw [Nat.zero_add] at this
    exact this.symm
  · rw [if_neg q]
    obtain ⟨ne, v⟩ := w_v hA I1y.1
    have e := trE_eq hA hK hg hGv hG (K * (A : Int) - (A : Int)).toNat (p - (A : Int)).toNat r0 c1 (by omega) (by omega) (by rw [show K * (A : Int) - (A : Int) - (((K * (A : Int) - (A : Int)).toNat : Nat) : Int) = 0 by omega]; exact v) ne (by omega)
    have e3 : (K * (A : Int) - 1).toNat = (K * (A : Int) - (A : Int)).toNat + (A - 1) := by omega
    rw [e3] at t2
    rw [e, show p.toNat = (A - 1) + ((p - (A : Int)).toNat + 1) by omega, e3, rP_add, t2]
