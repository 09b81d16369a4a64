/-! ===== both windings: the first turn of the best way ===== -/
theorem cw_ff_2 {ok : Int → Bool} {d : Int} (m : Nat) : ∀ (n : Nat) (i : Int), (∀ j, i ≤ j → j < i + n → ¬ ok j = true) → cw_ff ok (fun i => i) d (n + m) i = cw_ff ok (fun i => i) d m (i + n)
  | 0, i, _ => by rw [Nat.zero_add, show i + ((0 : Nat) : Int) = i by omega]
  | n + 1, i, h => by
    rw [show n + 1 + m = (n + m) + 1 by omega, cw_ff, if_neg (h i (by omega) (by omega)), cw_ff_2 m n (i + 1) (fun j a b => h j (by omega) (by omega)), show i + 1 + (n : Int) = i + ((n + 1 : Nat) : Int) by omega]
theorem cw_ff_1 {ok : Int → Bool} {d : Int} (m : Nat) : ∀ (n : Nat) (i j : Int), i ≤ j → j < i + n → ok j = true → cw_ff ok (fun i => i) d (n + m) i = cw_ff ok (fun i => i) d n i
  | 0, i, j, a, b, _ => by omega
  | n + 1, i, j, a, b, h => by
    rw [show n + 1 + m = (n + m) + 1 by omega, cw_ff, cw_ff]
    by_cases q : ok i = true
    · rw [if_pos q, if_pos q]
    · rw [if_neg q, if_neg q]
      have e : j ≠ i := fun z => q (by rw [← z]; exact h)
      exact cw_ff_1 m n (i + 1) j (by omega) (by omega) h
theorem cw_ff_e {ok ok' : Int → Bool} {d : Int} : ∀ (n : Nat) (i : Int), (∀ j, i ≤ j → j < i + n → ok j = ok' j) → cw_ff ok (fun i => i) d n i = cw_ff ok' (fun i => i) d n i
  | 0, _, _ => rfl
  | n + 1, i, h => by rw [cw_ff, cw_ff, h i (by omega) (by omega), cw_ff_e n (i + 1) (fun j a b => h j (by omega) (by omega))]
/-- none is better than the best of all -/
theorem cw_bt_le {B x y : Int} (hx : cw_ok B x) (hy : cw_ok B y) : x / 1048576 ≤ cw_bt x y / 1048576 ∧ y / 1048576 ≤ cw_bt x y / 1048576 := by
  rcases cw_ok_v hx with rfl | ⟨f1, w1, k1, rfl⟩
  · rw [cw_0_bt]
    rcases cw_ok_v hy with rfl | ⟨f2, w2, k2, rfl⟩ <;> omega
  · rcases cw_ok_v hy with rfl | ⟨f2, w2, k2, rfl⟩
    · rw [cw_bt_0]; omega
    · rw [cw_bt_v k1 k2]
      split
      · have : min 1000000 (w1 + w2) ≤ 1000000 ∧ 1 ≤ min 1000000 (w1 + w2) := by omega
        generalize min 1000000 (w1 + w2) = v at *
        omega
      · split <;> omega
theorem cw_fo_le {B : Int} {f : Int → Int} : ∀ (n : Nat) (i b : Int), cw_ok B b → (∀ j, i ≤ j → j < i + n → cw_ok B (f j)) → b / 1048576 ≤ cw_fo f n i b / 1048576 ∧ ∀ j, i ≤ j → j < i + n → f j / 1048576 ≤ cw_fo f n i b / 1048576
  | 0, i, b, _, _ => ⟨Int.le_refl _, fun j a c => by omega⟩
  | n + 1, i, b, hb, k => by
    have k0 := k i (by omega) (by omega)
    have l := cw_bt_le hb k0
    have r := cw_fo_le n (i + 1) (cw_bt b (f i)) (cw_bt_ok hb k0) (fun j x y => k j (by omega) (by omega))
    rw [cw_fo]
    refine ⟨Int.le_trans l.1 r.1, fun j a c => ?_⟩
    by_cases e : j = i
    · rw [e]; exact Int.le_trans l.2 r.1
    · exact r.2 j (by omega) (by omega)
theorem cw_bt_nz {B x y : Int} (hx : cw_ok B x) (hy : cw_ok B y) (h : x ≠ 0 ∨ y ≠ 0) : cw_bt x y ≠ 0 := by
  rcases cw_ok_v hx with rfl | ⟨f1, w1, k1, rfl⟩
  · rw [cw_0_bt]
    rcases h with h | h
    · exact absurd rfl h
    · exact h
  · rcases cw_ok_v hy with rfl | ⟨f2, w2, k2, rfl⟩
    · rw [cw_bt_0]; omega
    · rw [cw_bt_v k1 k2]
      split
      · have : min 1000000 (w1 + w2) ≤ 1000000 ∧ 1 ≤ min 1000000 (w1 + w2) := by omega
        generalize min 1000000 (w1 + w2) = v at *
        omega
      · split <;> omega
theorem cw_fo_nb {B : Int} {f : Int → Int} : ∀ (n : Nat) (i b : Int), cw_ok B b → (∀ j, i ≤ j → j < i + n → cw_ok B (f j)) → b ≠ 0 → cw_fo f n i b ≠ 0
  | 0, _, _, _, _, h => h
  | n + 1, i, b, hb, k, h => by
    have k0 := k i (by omega) (by omega)
    rw [cw_fo]
    exact cw_fo_nb n (i + 1) _ (cw_bt_ok hb k0) (fun j x y => k j (by omega) (by omega)) (cw_bt_nz hb k0 (Or.inl h))
theorem cw_fo_nz {B : Int} {f : Int → Int} : ∀ (n : Nat) (i b : Int), (∀ j, i ≤ j → j < i + n → cw_ok B (f j)) → ∀ j, i ≤ j → j < i + n → f j ≠ 0 → cw_ok B b → cw_fo f n i b ≠ 0
  | 0, i, b, _, j, a, c, _, _ => by omega
  | n + 1, i, b, k, j, a, c, h, hb => by
    have k0 := k i (by omega) (by omega)
    rw [cw_fo]
    by_cases e : j = i
    · exact cw_fo_nb n (i + 1) _ (cw_bt_ok hb k0) (fun j x y => k j (by omega) (by omega)) (cw_bt_nz hb k0 (Or.inr (by rw [← e]; exact h)))
    · exact cw_fo_nz n (i + 1) _ (fun j x y => k j (by omega) (by omega)) j (by omega) (by omega) h (cw_bt_ok hb k0)
/-- some of a row has a fit that none exceeds: the row's best has it -/
theorem cw_fo_hit {B : Int} {f : Int → Int} {n : Nat} {i v : Int} (k : ∀ j, i ≤ j → j < i + n → cw_ok B (f j)) (hv : cw_fo f n i 0 / 1048576 ≤ v) : (∃ j, (i ≤ j ∧ j < i + n) ∧ f j ≠ 0 ∧ f j / 1048576 = v) ↔ (cw_fo f n i 0 ≠ 0 ∧ cw_fo f n i 0 / 1048576 = v) := by
  constructor
  · rintro ⟨j, hj, a, b⟩
    have l := (cw_fo_le n i 0 (Or.inl rfl) k).2 j hj.1 hj.2
    have e : cw_fo f n i 0 / 1048576 = v := by omega
    refine ⟨fun z => ?_, e⟩
    rw [z] at l
    rcases cw_ok_v (k j hj.1 hj.2) with y | ⟨p, q, c, y⟩
    · exact a y
    · have nz := cw_fo_nz n i 0 k j hj.1 hj.2 a
      exact nz (Or.inl rfl) z
  · rintro ⟨a, b⟩
    rcases cw_fo_ne n i 0 (Or.inl rfl) k a with c | ⟨j, hj, c, e⟩
    · exact absurd rfl c.1
    · exact ⟨j, hj, c, by rw [e]; exact b⟩
/-- the state j places on -/
def rq (A R : Nat) (n : Int) (g : Int → Int → Int) (pn : Int → Int) : Nat → Int → Int → Nat → Int × Int
  | _, r, c, 0 => (r, c)
  | 0, r, c, _ + 1 => (r, c)
  | l + 1, r, c, j + 1 => rq A R n g pn l (r + re A R n g pn l r c) (rm_nc (cw_N A) c (re A R n g pn l r c)) j
theorem sf_d {y v B : Int} (hy : 0 ≤ y) (hv : cw_ok B v) : (sf y v = 0 ↔ v = 0) ∧ (v ≠ 0 → sf y v / 1048576 = v / 1048576 + y) := by
  unfold sf
  rcases cw_ok_v hv with rfl | ⟨f, w, k, rfl⟩
  · rw [if_pos rfl]; exact ⟨Iff.rfl, fun h => absurd rfl h⟩
  · rw [if_neg (by omega)]
    exact ⟨⟨fun h => by omega, fun h => by omega⟩, fun _ => by omega⟩
theorem t0 {A R : Nat} (hA : 3 ≤ A ∧ A ≤ 6) {K : Int} (hK : 1 ≤ K ∧ K ≤ 4) {g : Int → Int → Int} {pn : Int → Int} {G : Int → Int → Int} (hg : ∀ p r, 0 ≤ g p r) (hGv : cw_Gv R G) (hG : ∀ p r, 0 ≤ p → p < K * (A : Int) → 0 ≤ r → r < (R : Int) → G p r = if pn p < 0 ∨ pn p = r then g p r * 1048576 else -1) : ∀ (m p : Nat) (r0 x : Int), p + m + 1 = A → 0 ≤ x ∧ x < ((3 ^ p : Nat) : Int) → (∀ j : Nat, j ≤ p → 0 ≤ r0 + cw_sh A (x * wB A p) j ∧ r0 + cw_sh A (x * wB A p) j < (R : Int)) → (pn p < 0 ∨ pn p = r0 + cw_sh A (x * wB A p) p) → 0 ≤ (rf_F A R (K * (A : Int)) g pn (K * (A : Int) - 1 - p).toNat (r0 + cw_sh A (x * wB A p) p) (wc A p x)).1 → ∀ c1, c1 = cw_ff (fun c => decide (wX A R K G r0 p c ≠ 0 ∧ wX A R K G r0 p c / 1048576 = (rf_F A R (K * (A : Int)) g pn (K * (A : Int) - 1 - p).toNat (r0 + cw_sh A (x * wB A p) p) (wc A p x)).1)) (fun i => i) 0 (wB A p).toNat (x * wB A p) → (x * wB A p ≤ c1 ∧ c1 < x * wB A p + wB A p) ∧ rq A R (K * (A : Int)) g pn (K * (A : Int) - 1 - p).toNat (r0 + cw_sh A (x * wB A p) p) (wc A p x) m = (r0 + cw_sh A c1 (A - 1), c1) ∧ ∀ j, j ≤ m → (rq A R (K * (A : Int)) g pn (K * (A : Int) - 1 - p).toNat (r0 + cw_sh A (x * wB A p) p) (wc A p x) j).1 = r0 + cw_sh A c1 (p + j) := by
  have mA := w_mA hA hK
  intro m
  induction m with
  | zero =>
    intro p r0 x hp hx hr pk hF c1 hc1
    have w := w_pre hA hK hg hGv hG 0 p r0 x hp hx hr
    unfold w_at at w
    rw [if_pos pk] at w
    have ep : p = A - 1 := by omega
    subst ep
    have b1 : wB A (A - 1) = 1 := wB_l (by omega)
    rw [b1, Int.mul_one] at w hr pk hF hc1 ⊢
    have xc : wc A (A - 1) x = x := by
      unfold wc
      rw [show A - 1 - (A - 1) = 0 by omega]
      simp
    rw [xc] at w hF hc1 ⊢
    have ok := rf_F_ok (A := A) (R := R) (n := K * (A : Int)) (pn := pn) hg (K * (A : Int) - 1 - ((A - 1 : Nat) : Int)).toNat (r0 + cw_sh A x (A - 1)) x
    have wx : wX A R K G r0 (A - 1) x = ec (rf_F A R (K * (A : Int)) g pn (K * (A : Int) - 1 - ((A - 1 : Nat) : Int)).toNat (r0 + cw_sh A x (A - 1)) x) := by
      rw [← w, show (1 : Int).toNat = 1 from rfl, cw_fo, cw_fo, cw_0_bt]
    have e1 : c1 = x := by
      rw [hc1, show (1 : Int).toNat = 0 + 1 from rfl, cw_ff, if_pos]
      refine decide_eq_true ?_
      rw [wx]
      unfold ec
      rw [if_neg (by omega)]
      rcases ok with z | z
      · omega
      · generalize rf_F A R (K * (A : Int)) g pn (K * (A : Int) - 1 - ((A - 1 : Nat) : Int)).toNat (r0 + cw_sh A x (A - 1)) x = y at *
        have := hg (K * (A : Int) - 1 - (((K * (A : Int) - 1 - ((A - 1 : Nat) : Int)).toNat : Nat) : Int)) (r0 + cw_sh A x (A - 1))
        exact ⟨by omega, by omega⟩
    refine ⟨by omega, by rw [rq, e1], fun j hj => ?_⟩
    rw [show j = 0 by omega, rq, e1]
    rfl
  | succ m ih =>
    intro p r0 x hp hx hr pk hF c1 hc1
    have hp1 : p + 1 < A := by omega
    have b3 := wB_3 hp1
    have bp := wB_pos A (p + 1)
    have rp := hr p (Nat.le_refl _)
    have g0 := hg (p : Int) (r0 + cw_sh A (x * wB A p) p)
    have wo : ∀ c, cw_ok 1000 (wX A R K G r0 (p + 1) c) := fun c => wX_ok hA hK hGv r0 (p + 1) c (by omega)
    have el2 : (K * (A : Int) - 1 - (p : Int)).toNat = (K * (A : Int) - 2 - p).toNat + 1 := by omega
    have Lp : K * (A : Int) - 2 - (((K * (A : Int) - 2 - p).toNat : Nat) : Int) = p := by omega
    have wpe : ∀ c, x * wB A p ≤ c → c < x * wB A p + wB A p → wX A R K G r0 p c = sf (g p (r0 + cw_sh A (x * wB A p) p)) (wX A R K G r0 (p + 1) c) := fun c c0 c2 => by rw [w_el hA hK hg hGv hG hp1 hx rp c0 c2, if_pos pk]
    have z : ∀ e : Int, 0 ≤ e ∧ e ≤ 2 → cw_fo (wX A R K G r0 (p + 1)) (wB A (p + 1)).toNat ((3 * x + e) * wB A (p + 1)) 0 = rf_y A R pn (rf_F A R (K * (A : Int)) g pn (K * (A : Int) - 2 - p).toNat) p (r0 + cw_sh A (x * wB A p) p) (wc A p x) (e - 1) := fun e he => w_zh hA hK hg hGv hG hp1 hx hr he (fun hr2 => w_pre hA hK hg hGv hG m (p + 1) r0 (3 * x + e) (by omega) ⟨by omega, by rw [Nat.pow_succ]; omega⟩ hr2)
    rw [el2] at hF hc1 ⊢
    generalize hL : (K * (A : Int) - 2 - p).toNat = L at *
    generalize hv : (rf_F A R (K * (A : Int)) g pn (L + 1) (r0 + cw_sh A (x * wB A p) p) (wc A p x)).1 = v at *
    have s := rf_F_s (A := A) (R := R) (n := K * (A : Int)) (pn := pn) hg L (r0 + cw_sh A (x * wB A p) p) (wc A p x)
    have ok := rf_F_ok (A := A) (R := R) (n := K * (A : Int)) (pn := pn) hg (L + 1) (r0 + cw_sh A (x * wB A p) p) (wc A p x)
    rw [Lp] at s
    rw [show K * (A : Int) - 1 - ((L + 1 : Nat) : Int) = p by omega] at ok
    have q1 : ec1 (g p (r0 + cw_sh A (x * wB A p) p)) (rf_F A R (K * (A : Int)) g pn (L + 1) (r0 + cw_sh A (x * wB A p) p) (wc A p x)) / 1048576 = v - g p (r0 + cw_sh A (x * wB A p) p) := by
      unfold ec1
      rw [hv, if_neg (by omega)]
      rcases ok with y | y
      · rw [hv] at y; omega
      · rw [hv] at y; omega
    have zo : ∀ e : Int, 0 ≤ e ∧ e ≤ 2 → cw_ok 1000 (rf_y A R pn (rf_F A R (K * (A : Int)) g pn L) p (r0 + cw_sh A (x * wB A p) p) (wc A p x) (e - 1)) := fun e he => by
      rw [← z e he]
      exact cw_fo_ok _ _ _ (Or.inl rfl) (fun c _ _ => wo c)
    have o0 := zo 0 (by decide)
    have o1 := zo 1 (by decide)
    have o2 := zo 2 (by decide)
    rw [show (0 : Int) - 1 = -1 by decide] at o0
    rw [show (1 : Int) - 1 = 0 by decide] at o1
    rw [show (2 : Int) - 1 = 1 by decide] at o2
    have zle : ∀ e : Int, 0 ≤ e ∧ e ≤ 2 → rf_y A R pn (rf_F A R (K * (A : Int)) g pn L) p (r0 + cw_sh A (x * wB A p) p) (wc A p x) (e - 1) / 1048576 ≤ v - g p (r0 + cw_sh A (x * wB A p) p) := by
      intro e he
      rw [← q1, s]
      have a := cw_bt_le o0 o1
      have b := cw_bt_le (cw_bt_ok o0 o1) o2
      rcases (by omega : e = 0 ∨ e = 1 ∨ e = 2) with rfl | rfl | rfl
      · rw [show (0 : Int) - 1 = -1 by decide]; exact Int.le_trans a.1 b.1
      · rw [show (1 : Int) - 1 = 0 by decide]; exact Int.le_trans a.2 b.1
      · rw [show (2 : Int) - 1 = 1 by decide]; exact b.2
    -- a range has one of the best just where the reference may go on so
    have hit : ∀ e : Int, 0 ≤ e ∧ e ≤ 2 → ((∃ c, ((3 * x + e) * wB A (p + 1) ≤ c ∧ c < (3 * x + e) * wB A (p + 1) + wB A (p + 1)) ∧ wX A R K G r0 p c ≠ 0 ∧ wX A R K G r0 p c / 1048576 = v) ↔ rn A R (K * (A : Int)) g pn L (r0 + cw_sh A (x * wB A p) p) (wc A p x) (e - 1)) := by
      intro e he
      have nb1 : ((wB A (p + 1)).toNat : Int) = wB A (p + 1) := by omega
      have h1 := cw_fo_hit (B := 1000) (f := wX A R K G r0 (p + 1)) (n := (wB A (p + 1)).toNat) (i := (3 * x + e) * wB A (p + 1)) (v := v - g p (r0 + cw_sh A (x * wB A p) p)) (fun c _ _ => wo c) (by rw [z e he]; exact zle e he)
      rw [z e he, nb1] at h1
      have h2 := rn_y (A := A) (R := R) (n := K * (A : Int)) (pn := pn) hg (l := L) (r := r0 + cw_sh A (x * wB A p) p) (c := wc A p x) (e := e - 1) (by rw [hv]; exact hF)
      rw [Lp, q1] at h2
      rw [show rn A R (K * (A : Int)) g pn L (r0 + cw_sh A (x * wB A p) p) (wc A p x) (e - 1) ↔ _ from h2, ← h1]
      constructor
      · rintro ⟨c, hc, a, b⟩
        have sb := w_sub hA hp1 hx he hc.1 hc.2
        have d := sf_d g0 (wo c)
        rw [wpe c sb.1.1 sb.1.2] at a b
        have nz : wX A R K G r0 (p + 1) c ≠ 0 := fun y => a (d.1.mpr y)
        exact ⟨c, hc, nz, by have := d.2 nz; omega⟩
      · rintro ⟨c, hc, a, b⟩
        have sb := w_sub hA hp1 hx he hc.1 hc.2
        have d := sf_d g0 (wo c)
        refine ⟨c, hc, ?_, ?_⟩
        · rw [wpe c sb.1.1 sb.1.2]; exact fun y => a (d.1.mp y)
        · rw [wpe c sb.1.1 sb.1.2, d.2 a]; omega
    have nb1 : ((wB A (p + 1)).toNat : Int) = wB A (p + 1) := by omega
    have b3x : x * wB A p = 3 * x * wB A (p + 1) := by rw [b3, ← Int.mul_assoc, Int.mul_comm x 3]
    have k0 : (3 * x + 0) * wB A (p + 1) = x * wB A p := by rw [Int.add_zero, b3x]
    have k1 : (3 * x + 1) * wB A (p + 1) = x * wB A p + wB A (p + 1) := by rw [Int.add_mul, b3x, Int.one_mul]
    have k2 : (3 * x + 2) * wB A (p + 1) = x * wB A p + wB A (p + 1) + wB A (p + 1) := by rw [Int.add_mul, b3x]; omega
    -- no code of a range without
    have dead : ∀ e : Int, 0 ≤ e ∧ e ≤ 2 → ¬ rn A R (K * (A : Int)) g pn L (r0 + cw_sh A (x * wB A p) p) (wc A p x) (e - 1) → ∀ c, (3 * x + e) * wB A (p + 1) ≤ c → c < (3 * x + e) * wB A (p + 1) + wB A (p + 1) → ¬ (decide (wX A R K G r0 p c ≠ 0 ∧ wX A R K G r0 p c / 1048576 = v) = true) := fun e he hn c c0 c2 hd => hn ((hit e he).mp ⟨c, ⟨c0, c2⟩, of_decide_eq_true hd⟩)
    -- the rest, once the first range that has one is known
    have go : ∀ e : Int, 0 ≤ e ∧ e ≤ 2 → rn A R (K * (A : Int)) g pn L (r0 + cw_sh A (x * wB A p) p) (wc A p x) (e - 1) → re A R (K * (A : Int)) g pn L (r0 + cw_sh A (x * wB A p) p) (wc A p x) = e - 1 → c1 = cw_ff (fun c => decide (wX A R K G r0 p c ≠ 0 ∧ wX A R K G r0 p c / 1048576 = v)) (fun i => i) 0 (wB A (p + 1)).toNat ((3 * x + e) * wB A (p + 1)) → (x * wB A p ≤ c1 ∧ c1 < x * wB A p + wB A p) ∧ rq A R (K * (A : Int)) g pn (L + 1) (r0 + cw_sh A (x * wB A p) p) (wc A p x) (m + 1) = (r0 + cw_sh A c1 (A - 1), c1) ∧ ∀ j, j ≤ m + 1 → (rq A R (K * (A : Int)) g pn (L + 1) (r0 + cw_sh A (x * wB A p) p) (wc A p x) j).1 = r0 + cw_sh A c1 (p + j) := by
      intro e he hn hre hc
      have self := w_sub hA hp1 hx he (c := (3 * x + e) * wB A (p + 1)) (Int.le_refl _) (by omega)
      have hn2 := hn
      obtain ⟨⟨g1, g2, g3⟩, h2, h3⟩ := hn2
      rw [wc_next hA hp1 hx he, hv, Lp] at *
      have er : r0 + cw_sh A ((3 * x + e) * wB A (p + 1)) (p + 1) = r0 + cw_sh A (x * wB A p) p + (e - 1) := by rw [self.2]; omega
      have i := ih (p + 1) r0 (3 * x + e) (by omega) ⟨by omega, by rw [Nat.pow_succ]; omega⟩ (fun j hj => by
        by_cases q : j = p + 1
        · rw [q, self.2]; omega
        · rw [(w_cd hA (by omega) hx self.1.1 self.1.2).2 j (by omega)]; exact hr j (by omega)) (by rw [er, show ((p + 1 : Nat) : Int) = (p : Int) + 1 by omega]; exact g2) (by
          rw [er, show (K * (A : Int) - 1 - ((p + 1 : Nat) : Int)).toNat = L by omega]; exact h2) c1 (by
          rw [hc, er, show (K * (A : Int) - 1 - ((p + 1 : Nat) : Int)).toNat = L by omega]
          refine cw_ff_e _ _ (fun c c0 c2 => ?_)
          have sb := w_sub hA hp1 hx he c0 (by omega)
          have d := sf_d g0 (wo c)
          rw [wpe c sb.1.1 sb.1.2]
          refine decide_eq_decide.mpr ⟨fun y => ?_, fun y => ?_⟩
          · have nz : wX A R K G r0 (p + 1) c ≠ 0 := fun z => y.1 (d.1.mpr z)
            exact ⟨nz, by have := d.2 nz; omega⟩
          · exact ⟨fun z => y.1 (d.1.mp z), by rw [d.2 y.1]; omega⟩)
      rw [er, show (K * (A : Int) - 1 - ((p + 1 : Nat) : Int)).toNat = L by omega] at i
      have inr : x * wB A p ≤ c1 ∧ c1 < x * wB A p + wB A p := (w_sub hA hp1 hx he i.1.1 i.1.2).1
      refine ⟨inr, ?_, fun j hj => ?_⟩
      · rw [rq, hre, wc_next hA hp1 hx he]
        exact i.2.1
      · match j, hj with
        | 0, _ =>
          rw [rq, Nat.add_zero, (w_cd hA (by omega) hx inr.1 inr.2).2 p (Nat.le_refl _)]
        | j + 1, hj =>
          rw [rq, hre, wc_next hA hp1 hx he, i.2.2 j (by omega), show p + 1 + j = p + (j + 1) by omega]
    have n3 : (wB A p).toNat = (wB A (p + 1)).toNat + ((wB A (p + 1)).toNat + (wB A (p + 1)).toNat) := by omega
    by_cases a : rn A R (K * (A : Int)) g pn L (r0 + cw_sh A (x * wB A p) p) (wc A p x) (-1)
    · obtain ⟨c, hc, hc2⟩ := (hit 0 (by decide)).mpr a
      rw [k0] at hc
      refine go 0 (by decide) a (by unfold re; rw [if_pos a]; rfl) ?_
      rw [hc1, n3, cw_ff_1 _ _ _ c hc.1 (by omega) (decide_eq_true hc2), k0]
    · by_cases b : rn A R (K * (A : Int)) g pn L (r0 + cw_sh A (x * wB A p) p) (wc A p x) 0
      · obtain ⟨c, hc, hc2⟩ := (hit 1 (by decide)).mpr b
        rw [k1] at hc
        refine go 1 (by decide) b (by unfold re; rw [if_neg a, if_pos b]; rfl) ?_
        rw [hc1, n3, cw_ff_2 _ _ _ (fun c c0 c2 => dead 0 (by decide) a c (by rw [k0]; exact c0) (by rw [k0]; omega)), cw_ff_1 _ _ _ c (by omega) (by omega) (decide_eq_true hc2), k1, nb1]
      · have w := w_pre hA hK hg hGv hG (m + 1) p r0 x hp hx hr
        unfold w_at at w
        rw [if_pos pk, el2] at w
        have nz : cw_fo (wX A R K G r0 p) (wB A p).toNat (x * wB A p) 0 ≠ 0 ∧ cw_fo (wX A R K G r0 p) (wB A p).toNat (x * wB A p) 0 / 1048576 = v := by
          rw [w]
          unfold ec
          rw [hv, if_neg (by omega)]
          rcases ok with y | y
          · rw [hv] at y; omega
          · exact ⟨by omega, by omega⟩
        have wo2 : ∀ c, cw_ok 1000 (wX A R K G r0 p c) := fun c => wX_ok hA hK hGv r0 p c (by omega)
        obtain ⟨c, hc, hc2⟩ := (cw_fo_hit (B := 1000) (v := v) (fun c _ _ => wo2 c) (by omega)).mpr nz
        have c2 : x * wB A p + wB A (p + 1) + wB A (p + 1) ≤ c := by
          by_cases y : c < x * wB A p + wB A (p + 1)
          · exact absurd (decide_eq_true hc2) (dead 0 (by decide) a c (by rw [k0]; exact hc.1) (by rw [k0]; omega))
          · by_cases y2 : c < x * wB A p + wB A (p + 1) + wB A (p + 1)
            · exact absurd (decide_eq_true hc2) (dead 1 (by decide) b c (by rw [k1]; omega) (by rw [k1]; omega))
            · omega
        have d : rn A R (K * (A : Int)) g pn L (r0 + cw_sh A (x * wB A p) p) (wc A p x) (2 - 1) := (hit 2 (by decide)).mp ⟨c, ⟨by rw [k2]; exact c2, by rw [k2]; omega⟩, hc2⟩
        refine go 2 (by decide) d (by unfold re; rw [if_neg a, if_neg b]; rfl) ?_
        rw [hc1, show (wB A p).toNat = ((wB A (p + 1)).toNat + (wB A (p + 1)).toNat) + (wB A (p + 1)).toNat by omega, cw_ff_2 _ _ _ (fun c c0 c2 => ?_), k2]
        · congr 1
          omega
        · by_cases y : c < x * wB A p + wB A (p + 1)
          · exact dead 0 (by decide) a c (by rw [k0]; exact c0) (by rw [k0]; omega)
          · exact dead 1 (by decide) b c (by rw [k1]; omega) (by rw [k1]; omega)
