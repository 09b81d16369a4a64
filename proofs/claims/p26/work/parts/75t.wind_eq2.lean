/-! ===== both windings: the same best ways on from a window ===== -/
theorem dp_yh {A R : Nat} (hA : 3 ≤ A ∧ A ≤ 6) {K : Int} {g : Int → Int → Int} {pn : Int → Int} {G : Int → Int → Int} (hg : ∀ p r, 0 ≤ g p r) (hG : ∀ p r, 0 ≤ p → p < K * (A : Int) → 0 ≤ r → r < (R : Int) → G p r = if pn p < 0 ∨ pn p = r then g p r * 1048576 else -1) (l : Nat) (ihl : ∀ r c, 0 ≤ c ∧ c < cw_N A → wv A R (K * (A : Int) - (A : Int) - l) r c → ec1 (g (K * (A : Int) - 1 - l) (r + cw_sh A c (A - 1))) (rf_F A R (K * (A : Int)) g pn l (r + cw_sh A c (A - 1)) c) = cw_A A R K G l r c) {r c : Int} (hl : ((l + 1 : Nat) : Int) ≤ K * (A : Int) - (A : Int)) (hc : 0 ≤ c ∧ c < cw_N A) (v : wv A R (K * (A : Int) - (A : Int) - ((l + 1 : Nat) : Int)) r c) : ∀ ch : Nat, ch < 3 → rf_y A R pn (rf_F A R (K * (A : Int)) g pn l) (K * (A : Int) - 2 - l) (r + cw_sh A c (A - 1)) c ((ch : Int) - 1) = if cw_lc A c ≤ ch then cw_on R G (cw_A A R K G l (r + cw_sh A c 1) (cw_ta A c + ch)) (K * (A : Int) - (l + 1)) (r + cw_sh A c (A - 1) - 1 + ch) else 0 := by
  have k := cw_cqs hA hc
  intro ch hch
  have kc := k.2 ch hch
  have o := k.1 r
  have lcq : cw_lc A c ≤ ch ↔ r < r + cw_sh A c (A - 1) + ch - 1 := by unfold cw_lc; omega
  have to : r + cw_sh A c (A - 1) + ((ch : Int) - 1) = r + cw_sh A c (A - 1) - 1 + ch := by omega
  have pp : K * (A : Int) - 2 - l + 1 = K * (A : Int) - (l + 1) := by omega
  unfold rf_y
  rw [kc.1, to]
  by_cases up : r < r + cw_sh A c (A - 1) + ch - 1
  · rw [if_pos (lcq.mpr up)]
    by_cases rg : 0 ≤ r + cw_sh A c (A - 1) - 1 + ch ∧ r + cw_sh A c (A - 1) - 1 + ch ≤ (R : Int) - 1
    · have gg := hG (K * (A : Int) - (l + 1)) (r + cw_sh A c (A - 1) - 1 + ch) (by omega) (by omega) rg.1 (by omega)
      have vn := wv_next hA (by omega) hc v hch (by omega) up
      rw [show K * (A : Int) - (A : Int) - ((l + 1 : Nat) : Int) + 1 = K * (A : Int) - (A : Int) - (l : Int) by omega] at vn
      have ih := ihl (r + cw_sh A c 1) (cw_ta A c + ch) (cw_tab3 hA hc hch) vn
      rw [show r + cw_sh A c 1 + cw_sh A (cw_ta A c + ch) (A - 1) = r + cw_sh A c (A - 1) - 1 + ch by omega, show K * (A : Int) - 1 - (l : Int) = K * (A : Int) - (l + 1) by omega] at ih
      have ok := rf_F_ok (A := A) (R := R) (n := K * (A : Int)) (pn := pn) hg l (r + cw_sh A c (A - 1) - 1 + ch) (cw_ta A c + ch)
      rw [show K * (A : Int) - 1 - (l : Int) = K * (A : Int) - (l + 1) by omega] at ok
      have g0 := hg (K * (A : Int) - (l + 1)) (r + cw_sh A c (A - 1) - 1 + ch)
      unfold cw_on
      rw [if_neg (show ¬ r + cw_sh A c (A - 1) - 1 + (ch : Int) < 0 by omega), if_neg (show ¬ (R : Int) ≤ r + cw_sh A c (A - 1) - 1 + (ch : Int) by omega)]
      by_cases pk : pn (K * (A : Int) - (l + 1)) < 0 ∨ pn (K * (A : Int) - (l + 1)) = r + cw_sh A c (A - 1) - 1 + ch
      · rw [if_pos pk] at gg
        rw [if_pos ⟨rg, (by rw [pp]; exact pk), Or.inr (by rw [show ((A : Int) - 1).toNat = A - 1 by omega, o]; omega)⟩, gg, ← ih]
        generalize rf_F A R (K * (A : Int)) g pn l (r + cw_sh A c (A - 1) - 1 + ch) (cw_ta A c + ch) = x at ok ⊢
        generalize g (K * (A : Int) - (l + 1)) (r + cw_sh A c (A - 1) - 1 + ch) = y at *
        unfold ec ec1
        rcases ok with z | z
        · rw [if_pos (show x.1 < 0 by omega), if_pos (show x.1 < 0 by omega), if_pos rfl]
        · rw [if_neg (show ¬ x.1 < 0 by omega), if_neg (show ¬ x.1 < 0 by omega), if_neg (by omega), if_neg (by omega)]
          omega
      · rw [if_neg pk] at gg
        rw [if_neg (fun z => pk (by rw [← pp]; exact z.2.1)), gg]
        split
        · rfl
        · rw [if_pos rfl]
    · rw [if_neg (fun z => rg z.1)]
      unfold cw_on
      by_cases a : r + cw_sh A c (A - 1) - 1 + ch < 0
      · rw [if_pos a]
      · rw [if_neg a, if_pos (by omega)]
  · rw [if_neg (fun z => up (lcq.mp z)), if_neg (fun z => by
      rcases z.2.2 with x | x
      · omega
      · rw [show ((A : Int) - 1).toNat = A - 1 by omega, o] at x
        omega)]
theorem dp_eq {A R : Nat} (hA : 3 ≤ A ∧ A ≤ 6) {K : Int} (hK : 1 ≤ K) {g : Int → Int → Int} {pn : Int → Int} {G : Int → Int → Int} (hg : ∀ p r, 0 ≤ g p r) (hG : ∀ p r, 0 ≤ p → p < K * (A : Int) → 0 ≤ r → r < (R : Int) → G p r = if pn p < 0 ∨ pn p = r then g p r * 1048576 else -1) : ∀ (l : Nat) (r c : Int), (l : Int) ≤ K * (A : Int) - (A : Int) → 0 ≤ c ∧ c < cw_N A → wv A R (K * (A : Int) - (A : Int) - l) r c → ec1 (g (K * (A : Int) - 1 - l) (r + cw_sh A c (A - 1))) (rf_F A R (K * (A : Int)) g pn l (r + cw_sh A c (A - 1)) c) = cw_A A R K G l r c
  | 0, r, c, _, hc, v => by
    rw [rf_F, cw_A]
    have g0 := hg (K * (A : Int) - 1) (r + cw_sh A c (A - 1))
    unfold ec1
    rw [show K * (A : Int) - 1 - ((0 : Nat) : Int) = K * (A : Int) - 1 by omega]
    dsimp only
    rw [if_neg (by omega)]
    omega
  | l + 1, r, c, hl, hc, v => by
    have k := cw_cqs hA hc
    have ks := cw_cks hA hc
    have lo : cw_lo A K l = (K * (A : Int) - (A : Int) - ((l + 1 : Nat) : Int) + ((1 : Nat) : Int)) / (A : Int) := by
      unfold cw_lo
      congr 1
      omega
    have v1 := v 1 (by omega)
    rw [cw_A, if_neg (show ¬ r + cw_sh A c 1 < cw_lo A K l by rw [lo]; omega)]
    rw [show K * (A : Int) - 1 - ((l + 1 : Nat) : Int) = K * (A : Int) - 2 - l by omega]
    by_cases hi : (R : Int) - K + cw_lo A K l < r + cw_sh A c 1
    · rw [if_pos hi]
      have n := dp_inf hA hK (pn := pn) hg (l + 1) r c hl hc v ⟨1, by omega, by rw [← lo]; exact hi⟩
      unfold ec1
      rw [if_pos n]
    · rw [if_neg hi, rf_F_s hg l (r + cw_sh A c (A - 1)) c]
      have Y := dp_yh hA hg hG l (fun r c hc v => dp_eq hA hK hg hG l r c (by omega) hc v) hl hc v
      have y0 := Y 0 (by decide)
      have y1 := Y 1 (by decide)
      have y2 := Y 2 (by decide)
      rw [show (((0 : Nat) : Int) - 1) = -1 by decide] at y0
      rw [show (((1 : Nat) : Int) - 1) = 0 by decide] at y1
      rw [show (((2 : Nat) : Int) - 1) = 1 by decide] at y2
      rw [y0, y1, y2]
      generalize hf : (fun ch : Int => cw_on R G (cw_A A R K G l (r + cw_sh A c 1) (cw_ta A c + ch)) (K * (A : Int) - (l + 1)) (r + cw_sh A c (A - 1) - 1 + ch)) = f
      have f0 : cw_on R G (cw_A A R K G l (r + cw_sh A c 1) (cw_ta A c + ((0 : Nat) : Int))) (K * (A : Int) - (l + 1)) (r + cw_sh A c (A - 1) - 1 + ((0 : Nat) : Int)) = f 0 := by rw [← hf]; rfl
      have f1 : cw_on R G (cw_A A R K G l (r + cw_sh A c 1) (cw_ta A c + ((1 : Nat) : Int))) (K * (A : Int) - (l + 1)) (r + cw_sh A c (A - 1) - 1 + ((1 : Nat) : Int)) = f 1 := by rw [← hf]; rfl
      have f2 : cw_on R G (cw_A A R K G l (r + cw_sh A c 1) (cw_ta A c + ((2 : Nat) : Int))) (K * (A : Int) - (l + 1)) (r + cw_sh A c (A - 1) - 1 + ((2 : Nat) : Int)) = f 2 := by rw [← hf]; rfl
      rw [f0, f1, f2]
      have l0 : 0 ≤ cw_lc A c := by unfold cw_lc; omega
      by_cases a : cw_lc A c = 0
      · rw [a, if_pos (by decide), if_pos (by decide), if_pos (by decide), show ((3 : Int) - 0).toNat = 3 by decide]
        simp only [cw_fo, cw_0_bt]
        rfl
      · by_cases b : cw_lc A c = 1
        · rw [b, if_neg (by decide), if_pos (by decide), if_pos (by decide), show ((3 : Int) - 1).toNat = 2 by decide]
          simp only [cw_fo, cw_0_bt]
          rfl
        · by_cases d : cw_lc A c = 2
          · rw [d, if_neg (by decide), if_neg (by decide), if_pos (by decide), show ((3 : Int) - 2).toNat = 1 by decide]
            simp only [cw_fo, cw_0_bt]
          · rw [if_neg (by omega), if_neg (by omega), if_neg (by omega), show (3 - cw_lc A c).toNat = 0 by omega]
            simp only [cw_fo, cw_0_bt]
/-! ===== the better of two is a sum: any order ===== -/
theorem cw_bt_v {f1 w1 f2 w2 : Int} (h1 : 0 ≤ f1 ∧ 1 ≤ w1 ∧ w1 ≤ 1000000) (h2 : 0 ≤ f2 ∧ 1 ≤ w2 ∧ w2 ≤ 1000000) : cw_bt (f1 * 1048576 + w1) (f2 * 1048576 + w2) = if f1 = f2 then f1 * 1048576 + min 1000000 (w1 + w2) else if f1 < f2 then f2 * 1048576 + w2 else f1 * 1048576 + w1 := by
  unfold cw_bt
  have d1 : (f1 * 1048576 + w1) / 1048576 = f1 := by omega
  have d2 : (f1 * 1048576 + w1) % 1048576 = w1 := by omega
  have d3 : (f2 * 1048576 + w2) / 1048576 = f2 := by omega
  have d4 : (f2 * 1048576 + w2) % 1048576 = w2 := by omega
  rw [if_neg (by omega), if_neg (by omega), d1, d2, d3, d4]
  by_cases e : f1 = f2
  · rw [if_pos e, if_pos e]
  · rw [if_neg e, if_neg e]
    split <;> omega
theorem cw_ok_v {B x : Int} (h : cw_ok B x) : x = 0 ∨ ∃ f w, (0 ≤ f ∧ 1 ≤ w ∧ w ≤ 1000000) ∧ x = f * 1048576 + w := by
  unfold cw_ok at h
  rcases h with h | h
  · exact Or.inl h
  · exact Or.inr ⟨x / 1048576, x % 1048576, by omega, by omega⟩
theorem cw_bt_a {B x y z : Int} (hx : cw_ok B x) (hy : cw_ok B y) (hz : cw_ok B z) : cw_bt (cw_bt x y) z = cw_bt x (cw_bt y z) := by
  rcases cw_ok_v hx with rfl | ⟨f1, w1, k1, rfl⟩
  · rw [cw_0_bt, cw_0_bt]
  · rcases cw_ok_v hy with rfl | ⟨f2, w2, k2, rfl⟩
    · rw [cw_bt_0, cw_0_bt]
    · rcases cw_ok_v hz with rfl | ⟨f3, w3, k3, rfl⟩
      · rw [cw_bt_0, cw_bt_0]
      · rw [cw_bt_v k1 k2, cw_bt_v k2 k3]
        by_cases a : f1 = f2
        · by_cases b : f2 = f3
          · rw [if_pos a, if_pos b, cw_bt_v (by omega) k3, cw_bt_v k1 (by omega), if_pos (by omega), if_pos (by omega)]
            omega
          · rw [if_pos a, if_neg b, cw_bt_v (by omega) k3, if_neg (by omega)]
            by_cases e : f2 < f3
            · rw [if_pos e, cw_bt_v k1 k3, if_pos (show f1 < f3 by omega), if_neg (show ¬ f1 = f3 by omega), if_pos (show f1 < f3 by omega)]
            · rw [if_neg e, cw_bt_v k1 k2, if_neg (by omega), if_pos a]
        · rw [if_neg a]
          by_cases c : f1 < f2
          · rw [if_pos c, cw_bt_v k2 k3]
            by_cases b : f2 = f3
            · rw [if_pos b, cw_bt_v k1 (by omega), if_neg a, if_pos c]
            · rw [if_neg b]
              by_cases e : f2 < f3
              · rw [if_pos e, cw_bt_v k1 k3, if_neg (by omega), if_pos (by omega)]
              · rw [if_neg e, cw_bt_v k1 k2, if_neg a, if_pos c]
          · rw [if_neg c, cw_bt_v k1 k3]
            by_cases b : f2 = f3
            · rw [if_pos b, cw_bt_v k1 (by omega), if_neg (by omega), if_neg (by omega), if_neg a, if_neg c]
            · rw [if_neg b]
              by_cases e : f2 < f3
              · rw [if_pos e, cw_bt_v k1 k3]
              · rw [if_neg e, cw_bt_v k1 k2, if_neg a, if_neg c, if_neg (by omega), if_neg (by omega)]
theorem cw_fo_b {B : Int} {f : Int → Int} : ∀ (n : Nat) (i b : Int), cw_ok B b → (∀ j, i ≤ j → j < i + n → cw_ok B (f j)) → cw_fo f n i b = cw_bt b (cw_fo f n i 0)
  | 0, i, b, _, _ => by rw [cw_fo, cw_fo, cw_bt_0]
  | n + 1, i, b, hb, k => by
    have k0 := k i (by omega) (by omega)
    have kr : ∀ j, i + 1 ≤ j → j < i + 1 + n → cw_ok B (f j) := fun j x y => k j (by omega) (by omega)
    rw [cw_fo, cw_fo, cw_fo_b n (i + 1) (cw_bt b (f i)) (cw_bt_ok hb k0) kr, cw_fo_b n (i + 1) (cw_bt 0 (f i)) (cw_bt_ok (Or.inl rfl) k0) kr, cw_0_bt]
    exact cw_bt_a hb k0 (cw_fo_ok n (i + 1) 0 (Or.inl rfl) kr)
theorem cw_fo_2 (f : Int → Int) (m : Nat) : ∀ (n : Nat) (i b : Int), cw_fo f (n + m) i b = cw_fo f m (i + n) (cw_fo f n i b)
  | 0, i, b => by rw [cw_fo, Nat.zero_add, show i + ((0 : Nat) : Int) = i by omega]
  | n + 1, i, b => by
    rw [show n + 1 + m = (n + m) + 1 by omega, cw_fo, cw_fo, cw_fo_2 f m n (i + 1), show i + 1 + (n : Int) = i + ((n + 1 : Nat) : Int) by omega]
theorem cw_fo_e {f h : Int → Int} : ∀ (n : Nat) (i b : Int), (∀ j, i ≤ j → j < i + n → f j = h j) → cw_fo f n i b = cw_fo h n i b
  | 0, _, _, _ => rfl
  | n + 1, i, b, e => by rw [cw_fo, cw_fo, e i (by omega) (by omega), cw_fo_e n (i + 1) _ (fun j x y => e j (by omega) (by omega))]
/-- the same with more grey -/
def sf (y v : Int) : Int := if v = 0 then 0 else v + y * 1048576
theorem sf_bt {B y a b : Int} (hy : 0 ≤ y) (ha : cw_ok B a) (hb : cw_ok B b) : cw_bt (sf y a) (sf y b) = sf y (cw_bt a b) := by
  unfold sf
  rcases cw_ok_v ha with rfl | ⟨f1, w1, k1, rfl⟩
  · rw [if_pos rfl, cw_0_bt, cw_0_bt]
  · rcases cw_ok_v hb with rfl | ⟨f2, w2, k2, rfl⟩
    · rw [if_pos rfl, cw_bt_0, cw_bt_0]
    · rw [if_neg (by omega), if_neg (by omega), show f1 * 1048576 + w1 + y * 1048576 = (f1 + y) * 1048576 + w1 by omega, show f2 * 1048576 + w2 + y * 1048576 = (f2 + y) * 1048576 + w2 by omega, cw_bt_v (by omega) (by omega), cw_bt_v k1 k2]
      by_cases e : f1 = f2
      · rw [if_pos (by omega), if_pos e, if_neg (by omega)]
        omega
      · rw [if_neg (by omega), if_neg e]
        by_cases c : f1 < f2
        · rw [if_pos (by omega), if_pos c, if_neg (by omega)]
          omega
        · rw [if_neg (by omega), if_neg c, if_neg (by omega)]
          omega
theorem sf_fo {B y : Int} {f : Int → Int} (hy : 0 ≤ y) : ∀ (n : Nat) (i b : Int), cw_ok B b → (∀ j, i ≤ j → j < i + n → cw_ok B (f j)) → cw_fo (fun j => sf y (f j)) n i (sf y b) = sf y (cw_fo f n i b)
  | 0, _, _, _, _ => rfl
  | n + 1, i, b, hb, k => by
    have k0 := k i (by omega) (by omega)
    rw [cw_fo, cw_fo, sf_bt hy hb k0]
    exact sf_fo hy n (i + 1) _ (cw_bt_ok hb k0) (fun j x z => k j (by omega) (by omega))
