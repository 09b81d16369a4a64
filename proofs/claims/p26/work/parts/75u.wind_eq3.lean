/-! ===== both windings: the first windows, place by place ===== -/
/-- the reference's code at place p of the first turn: still ahead of place 0, then the changes x -/
def wc (A p : Nat) (x : Int) : Int := ((3 ^ (A - 1 - p) : Nat) - 1 : Int) / 2 * ((3 ^ p : Nat) : Int) + x
def wB (A p : Nat) : Int := ((3 ^ (A - 1 - p) : Nat) : Int)
def cw_cr (A : Nat) : Bool := (List.range A).all (fun p => (List.range (3 ^ p)).all (fun x => decide (p + 1 < A → rm_nc (cw_N A) (wc A p (x : Int)) (0 - 1) = wc A (p + 1) (3 * (x : Int) + 0) ∧ rm_nc (cw_N A) (wc A p (x : Int)) (1 - 1) = wc A (p + 1) (3 * (x : Int) + 1) ∧ rm_nc (cw_N A) (wc A p (x : Int)) (2 - 1) = wc A (p + 1) (3 * (x : Int) + 2)) && decide (0 ≤ wc A p (x : Int) ∧ wc A p (x : Int) < cw_N A)))
def cw_cs (A : Nat) : Bool := (List.range (3 ^ (A - 1))).all (fun c => (List.range A).all (fun p => (List.range (p + 1)).all (fun j => decide (cw_sh A (c : Int) j = cw_sh A ((c : Int) / wB A p * wB A p) j)) && decide (p + 1 < A → cw_sh A (c : Int) (p + 1) = cw_sh A (c : Int) p + ((c : Int) / wB A (p + 1)) % 3 - 1)))
theorem cw_cr3 : cw_cr 3 = true := by decide +kernel
theorem cw_cr4 : cw_cr 4 = true := by decide +kernel
theorem cw_cr5 : cw_cr 5 = true := by decide +kernel
theorem cw_cr6 : cw_cr 6 = true := by decide +kernel
theorem cw_cs3 : cw_cs 3 = true := by decide +kernel
theorem cw_cs4 : cw_cs 4 = true := by decide +kernel
theorem cw_cs5 : cw_cs 5 = true := by decide +kernel
theorem cw_cs6 : cw_cs 6 = true := by decide +kernel
theorem cw_cra {A : Nat} (h : 3 ≤ A ∧ A ≤ 6) : cw_cr A = true ∧ cw_cs A = true := by
  have : A = 3 ∨ A = 4 ∨ A = 5 ∨ A = 6 := by omega
  rcases this with e | e | e | e <;> subst e
  · exact ⟨cw_cr3, cw_cs3⟩
  · exact ⟨cw_cr4, cw_cs4⟩
  · exact ⟨cw_cr5, cw_cs5⟩
  · exact ⟨cw_cr6, cw_cs6⟩
theorem wc_next {A : Nat} (h : 3 ≤ A ∧ A ≤ 6) {p : Nat} (hp : p + 1 < A) {x : Int} (hx : 0 ≤ x ∧ x < ((3 ^ p : Nat) : Int)) {e : Int} (he : 0 ≤ e ∧ e ≤ 2) : rm_nc (cw_N A) (wc A p x) (e - 1) = wc A (p + 1) (3 * x + e) := by
  have k := (cw_cra h).1
  unfold cw_cr at k
  have a := List.all_eq_true.mp k p (List.mem_range.mpr (by omega))
  have b := List.all_eq_true.mp a x.toNat (List.mem_range.mpr (by omega))
  rw [Bool.and_eq_true] at b
  have d := of_decide_eq_true b.1 hp
  rw [show ((x.toNat : Nat) : Int) = x by omega] at d
  rcases (by omega : e = 0 ∨ e = 1 ∨ e = 2) with rfl | rfl | rfl
  · exact d.1
  · exact d.2.1
  · exact d.2.2
theorem ws_pre {A : Nat} (h : 3 ≤ A ∧ A ≤ 6) {p : Nat} (hp : p < A) {c : Int} (hc : 0 ≤ c ∧ c < cw_N A) : (∀ j, j ≤ p → cw_sh A c j = cw_sh A (c / wB A p * wB A p) j) ∧ (p + 1 < A → cw_sh A c (p + 1) = cw_sh A c p + (c / wB A (p + 1)) % 3 - 1) := by
  have k := (cw_cra h).2
  unfold cw_cs at k
  have a := List.all_eq_true.mp k c.toNat (List.mem_range.mpr (by unfold cw_N at hc; omega))
  have b := List.all_eq_true.mp a p (List.mem_range.mpr hp)
  rw [Bool.and_eq_true, show ((c.toNat : Nat) : Int) = c by omega] at b
  exact ⟨fun j hj => of_decide_eq_true (List.all_eq_true.mp b.1 j (List.mem_range.mpr (by omega))), of_decide_eq_true b.2⟩
theorem p3_pos : ∀ n : Nat, 1 ≤ 3 ^ n
  | 0 => by decide
  | n + 1 => by
    have := p3_pos n
    rw [Nat.pow_succ]
    omega
theorem wB_pos (A p : Nat) : 1 ≤ wB A p := by
  unfold wB
  have := p3_pos (A - 1 - p)
  omega
theorem wB_3 {A p : Nat} (h : p + 1 < A) : wB A p = 3 * wB A (p + 1) := by
  unfold wB
  rw [show A - 1 - p = (A - 1 - (p + 1)) + 1 by omega, Nat.pow_succ]
  omega
theorem wB_0 (A : Nat) : wB A 0 = cw_N A := rfl
theorem wB_l {A : Nat} (h : 1 ≤ A) : wB A (A - 1) = 1 := by
  unfold wB
  rw [show A - 1 - (A - 1) = 0 by omega]
  rfl
theorem cw_ww_0 {A R : Nat} {G : Int → Int → Int} {r c : Int} : ∀ (n : Nat) (p : Int), cw_ww A R G r c n p 0 = 0
  | 0, _ => rfl
  | n + 1, p => by rw [cw_ww, if_pos rfl]
theorem cw_ww_add {A R : Nat} {G : Int → Int → Int} {r c y : Int} (hG : cw_Gv R G) (hy : 0 ≤ y) : ∀ (n : Nat) (p X : Int), 0 ≤ p → p + n ≤ 24 → 0 < X → cw_ww A R G r c n p (X + y * 1048576) = sf y (cw_ww A R G r c n p X)
  | 0, p, X, _, _, h => by
    rw [cw_ww, cw_ww]
    unfold sf
    rw [if_neg (by omega)]
  | n + 1, p, X, h0, h1, h => by
    rw [cw_ww, cw_ww, if_neg (by omega), if_neg (show ¬ X = 0 by omega)]
    by_cases a : r + cw_sh A c p.toNat < 0
    · rw [if_pos a, if_pos a]; unfold sf; rw [if_pos rfl]
    · rw [if_neg a, if_neg a]
      by_cases b : (R : Int) ≤ r + cw_sh A c p.toNat
      · rw [if_pos b, if_pos b]; unfold sf; rw [if_pos rfl]
      · rw [if_neg b, if_neg b]
        by_cases e : G p (r + cw_sh A c p.toNat) = -1
        · rw [if_pos e, if_pos e]; unfold sf; rw [if_pos rfl]
        · rw [if_neg e, if_neg e]
          have q : 0 ≤ G p (r + cw_sh A c p.toNat) := by
            rcases hG p (r + cw_sh A c p.toNat) (by omega) (by omega) h0 (by omega) with z | ⟨g, g0, g1, z⟩
            · exact absurd z e
            · omega
          rw [show X + y * 1048576 + G p (r + cw_sh A c p.toNat) = X + G p (r + cw_sh A c p.toNat) + y * 1048576 by omega]
          exact cw_ww_add hG hy n (p + 1) _ (by omega) (by omega) (by omega)
theorem cw_fo_z {f : Int → Int} : ∀ (n : Nat) (i : Int), (∀ j, i ≤ j → j < i + n → f j = 0) → cw_fo f n i 0 = 0
  | 0, _, _ => rfl
  | n + 1, i, h => by rw [cw_fo, h i (by omega) (by omega), cw_0_bt, cw_fo_z n (i + 1) (fun j x y => h j (by omega) (by omega))]
/-- what a first window is worth from place p on -/
def wX (A R : Nat) (K : Int) (G : Int → Int → Int) (r : Int) (p : Nat) (c : Int) : Int := cw_ww A R G r c (A - p) p (cw_A A R K G (K * (A : Int) - (A : Int)).toNat r c)
theorem wX_ok {A R : Nat} (hA : 3 ≤ A ∧ A ≤ 6) {K : Int} (hK : 1 ≤ K ∧ K ≤ 4) {G : Int → Int → Int} (hG : cw_Gv R G) (r : Int) (p : Nat) (c : Int) (hp : p ≤ A) : cw_ok 1000 (wX A R K G r p c) := by
  unfold wX
  have m : K * (A : Int) ≤ 24 := by
    rcases (by omega : A = 3 ∨ A = 4 ∨ A = 5 ∨ A = 6) with rfl | rfl | rfl | rfl <;> omega
  have m0 : (A : Int) ≤ K * (A : Int) := by
    rcases (by omega : A = 3 ∨ A = 4 ∨ A = 5 ∨ A = 6) with rfl | rfl | rfl | rfl <;> omega
  have a := cw_A_ok (A := A) (R := R) hG m (K * (A : Int) - (A : Int)).toNat r c (by omega)
  have w := cw_ww_ok hG (A := A) (R := R) (r := r) (c := c) (A - p) p _ _ (by omega) (by omega) a
  rcases w with z | z
  · exact Or.inl z
  · exact Or.inr ⟨z.1, z.2.1, z.2.2.1, by omega⟩
theorem sf_ec1 {y : Int} {x : Int × Int} (hy : 0 ≤ y) (h : rf_ok y x) : sf y (ec1 y x) = ec x := by
  unfold sf ec1 ec
  rcases h with z | z
  · rw [if_pos (show x.1 < 0 by omega), if_pos rfl, if_pos (show x.1 < 0 by omega)]
  · rw [if_neg (show ¬ x.1 < 0 by omega), if_neg (by omega), if_neg (show ¬ x.1 < 0 by omega)]
    omega
theorem w_mA {A : Nat} (hA : 3 ≤ A ∧ A ≤ 6) {K : Int} (hK : 1 ≤ K ∧ K ≤ 4) : (A : Int) ≤ K * (A : Int) ∧ K * (A : Int) ≤ 24 := by
  rcases (by omega : A = 3 ∨ A = 4 ∨ A = 5 ∨ A = 6) with rfl | rfl | rfl | rfl <;> omega
theorem w_xb {A p : Nat} {x : Int} (hp : p < A) (hx : 0 ≤ x ∧ x < ((3 ^ p : Nat) : Int)) : 0 ≤ x * wB A p ∧ x * wB A p + wB A p ≤ cw_N A := by
  have bp := wB_pos A p
  have e : cw_N A = ((3 ^ p : Nat) : Int) * wB A p := by
    unfold cw_N wB
    rw [← Int.natCast_mul, ← Nat.pow_add, show p + (A - 1 - p) = A - 1 by omega]
  have a := Int.mul_le_mul_of_nonneg_right (show x + 1 ≤ ((3 ^ p : Nat) : Int) by omega) (show 0 ≤ wB A p by omega)
  rw [Int.add_mul, Int.one_mul] at a
  exact ⟨Int.mul_nonneg hx.1 (by omega), by omega⟩
/-- a code of a range -/
theorem w_cd {A p : Nat} (hA : 3 ≤ A ∧ A ≤ 6) {x : Int} (hp : p < A) (hx : 0 ≤ x ∧ x < ((3 ^ p : Nat) : Int)) {c : Int} (c0 : x * wB A p ≤ c) (c1 : c < x * wB A p + wB A p) : (0 ≤ c ∧ c < cw_N A) ∧ ∀ j, j ≤ p → cw_sh A c j = cw_sh A (x * wB A p) j := by
  have xb := w_xb hp hx
  have bp := wB_pos A p
  have hc : 0 ≤ c ∧ c < cw_N A := by omega
  refine ⟨hc, fun j hj => ?_⟩
  have d : c / wB A p = x := by
    rw [show c = (c - x * wB A p) + x * wB A p by omega, Int.add_mul_ediv_right _ _ (by omega), Int.ediv_eq_zero_of_lt (by omega) (by omega)]
    omega
  rw [(ws_pre hA hp hc).1 j hj, d]
/-- the three ranges of a range -/
theorem w_sub {A p : Nat} (hA : 3 ≤ A ∧ A ≤ 6) {x : Int} (hp : p + 1 < A) (hx : 0 ≤ x ∧ x < ((3 ^ p : Nat) : Int)) {e : Int} (he : 0 ≤ e ∧ e ≤ 2) {c : Int} (c0 : (3 * x + e) * wB A (p + 1) ≤ c) (c1 : c < (3 * x + e) * wB A (p + 1) + wB A (p + 1)) : (x * wB A p ≤ c ∧ c < x * wB A p + wB A p) ∧ cw_sh A c (p + 1) = cw_sh A (x * wB A p) p + e - 1 := by
  have b3 := wB_3 hp
  have bp := wB_pos A (p + 1)
  have b3x : x * wB A p = 3 * x * wB A (p + 1) := by rw [b3, ← Int.mul_assoc, Int.mul_comm x 3]
  have ex : (3 * x + e) * wB A (p + 1) = x * wB A p + e * wB A (p + 1) := by rw [Int.add_mul, b3x]
  have eb : 0 ≤ e * wB A (p + 1) ∧ e * wB A (p + 1) + wB A (p + 1) ≤ wB A p := by
    rcases (by omega : e = 0 ∨ e = 1 ∨ e = 2) with rfl | rfl | rfl <;> omega
  have i1 : x * wB A p ≤ c ∧ c < x * wB A p + wB A p := by omega
  refine ⟨i1, ?_⟩
  have cc := w_cd hA (by omega) hx i1.1 i1.2
  have d : c / wB A (p + 1) = 3 * x + e := by
    rw [show c = (c - (3 * x + e) * wB A (p + 1)) + (3 * x + e) * wB A (p + 1) by omega, Int.add_mul_ediv_right _ _ (by omega), Int.ediv_eq_zero_of_lt (by omega) (by omega)]
    omega
  rw [(ws_pre hA (by omega) cc.1).2 hp, d, cc.2 p (Nat.le_refl _), show (3 * x + e) % 3 = e by omega]
/-- what a window is worth, by what it is worth a place on -/
theorem w_el {A R : Nat} (hA : 3 ≤ A ∧ A ≤ 6) {K : Int} (hK : 1 ≤ K ∧ K ≤ 4) {g : Int → Int → Int} {pn : Int → Int} {G : Int → Int → Int} (hg : ∀ p r, 0 ≤ g p r) (hGv : cw_Gv R G) (hG : ∀ p r, 0 ≤ p → p < K * (A : Int) → 0 ≤ r → r < (R : Int) → G p r = if pn p < 0 ∨ pn p = r then g p r * 1048576 else -1) {p : Nat} (hp1 : p + 1 < A) {r0 x : Int} (hx : 0 ≤ x ∧ x < ((3 ^ p : Nat) : Int)) (rp : 0 ≤ r0 + cw_sh A (x * wB A p) p ∧ r0 + cw_sh A (x * wB A p) p < (R : Int)) {c : Int} (c0 : x * wB A p ≤ c) (c1 : c < x * wB A p + wB A p) : wX A R K G r0 p c = if pn p < 0 ∨ pn p = r0 + cw_sh A (x * wB A p) p then sf (g p (r0 + cw_sh A (x * wB A p) p)) (wX A R K G r0 (p + 1) c) else 0 := by
  have mA := w_mA hA hK
  have gg := hG (p : Int) (r0 + cw_sh A (x * wB A p) p) (by omega) (by omega) rp.1 rp.2
  have g0 := hg (p : Int) (r0 + cw_sh A (x * wB A p) p)
  have sc := (w_cd hA (by omega) hx c0 c1).2 p (Nat.le_refl _)
  have ao := cw_A_ok (A := A) (R := R) hGv mA.2 (K * (A : Int) - (A : Int)).toNat r0 c (by omega)
  unfold wX
  rw [show A - p = (A - (p + 1)) + 1 by omega, cw_ww, show ((p : Int)).toNat = p by omega, sc, gg]
  generalize cw_A A R K G (K * (A : Int) - (A : Int)).toNat r0 c = X at ao ⊢
  by_cases z : X = 0
  · rw [if_pos z, z, cw_ww_0]
    unfold sf
    rw [if_pos rfl]
    split <;> rfl
  · have X0 : 0 < X := by
      rcases ao with y | y
      · exact absurd y z
      · omega
    rw [if_neg z, if_neg (by omega), if_neg (by omega)]
    by_cases pk : pn p < 0 ∨ pn p = r0 + cw_sh A (x * wB A p) p
    · rw [if_pos pk, if_pos pk, if_neg (by omega)]
      exact cw_ww_add hGv g0 (A - (p + 1)) ((p : Int) + 1) X (by omega) (by omega) X0
    · rw [if_neg pk, if_neg pk, if_pos rfl]
/-- what a row of first windows is worth -/
def w_at (A R : Nat) (K : Int) (g : Int → Int → Int) (pn : Int → Int) (G : Int → Int → Int) (p : Nat) (r0 x : Int) : Prop := cw_fo (wX A R K G r0 p) (wB A p).toNat (x * wB A p) 0 = if pn p < 0 ∨ pn p = r0 + cw_sh A (x * wB A p) p then ec (rf_F A R (K * (A : Int)) g pn (K * (A : Int) - 1 - p).toNat (r0 + cw_sh A (x * wB A p) p) (wc A p x)) else 0
/-- one of the three, by the reference's change -/
theorem w_zh {A R : Nat} (hA : 3 ≤ A ∧ A ≤ 6) {K : Int} (hK : 1 ≤ K ∧ K ≤ 4) {g : Int → Int → Int} {pn : Int → Int} {G : Int → Int → Int} (hg : ∀ p r, 0 ≤ g p r) (hGv : cw_Gv R G) (hG : ∀ p r, 0 ≤ p → p < K * (A : Int) → 0 ≤ r → r < (R : Int) → G p r = if pn p < 0 ∨ pn p = r then g p r * 1048576 else -1) {p : Nat} (hp1 : p + 1 < A) {r0 x : Int} (hx : 0 ≤ x ∧ x < ((3 ^ p : Nat) : Int)) (hr : ∀ j : Nat, j ≤ p → 0 ≤ r0 + cw_sh A (x * wB A p) j ∧ r0 + cw_sh A (x * wB A p) j < (R : Int)) {e : Int} (he : 0 ≤ e ∧ e ≤ 2) (ih : (∀ j : Nat, j ≤ p + 1 → 0 ≤ r0 + cw_sh A ((3 * x + e) * wB A (p + 1)) j ∧ r0 + cw_sh A ((3 * x + e) * wB A (p + 1)) j < (R : Int)) → w_at A R K g pn G (p + 1) r0 (3 * x + e)) : cw_fo (wX A R K G r0 (p + 1)) (wB A (p + 1)).toNat ((3 * x + e) * wB A (p + 1)) 0 = rf_y A R pn (rf_F A R (K * (A : Int)) g pn (K * (A : Int) - 2 - p).toNat) p (r0 + cw_sh A (x * wB A p) p) (wc A p x) (e - 1) := by
  have bp := wB_pos A (p + 1)
  have rp := hr p (Nat.le_refl _)
  have self := w_sub hA hp1 hx he (c := (3 * x + e) * wB A (p + 1)) (Int.le_refl _) (by omega)
  unfold rf_y
  rw [wc_next hA hp1 hx he]
  by_cases rg : 0 ≤ r0 + cw_sh A (x * wB A p) p + (e - 1) ∧ r0 + cw_sh A (x * wB A p) p + (e - 1) ≤ (R : Int) - 1
  · have i := ih (fun j hj => by
      by_cases q : j = p + 1
      · rw [q, self.2]; omega
      · rw [(w_cd hA (by omega) hx self.1.1 self.1.2).2 j (by omega)]; exact hr j (by omega))
    unfold w_at at i
    rw [self.2] at i
    rw [i, show ((p + 1 : Nat) : Int) = (p : Int) + 1 by omega, show K * (A : Int) - 1 - ((p : Int) + 1) = K * (A : Int) - 2 - p by omega, show r0 + (cw_sh A (x * wB A p) p + e - 1) = r0 + cw_sh A (x * wB A p) p + (e - 1) by omega]
    by_cases pk2 : pn ((p : Int) + 1) < 0 ∨ pn ((p : Int) + 1) = r0 + cw_sh A (x * wB A p) p + (e - 1)
    · rw [if_pos pk2, if_pos ⟨rg, pk2, Or.inl (by omega)⟩]
    · rw [if_neg pk2, if_neg (fun y => pk2 y.2.1)]
  · rw [if_neg (fun y => rg y.1)]
    refine cw_fo_z _ _ (fun c c0 c1 => ?_)
    have sc := w_sub hA hp1 hx he c0 (by omega)
    unfold wX
    rw [show A - (p + 1) = (A - (p + 2)) + 1 by omega, cw_ww, show (((p + 1 : Nat) : Int)).toNat = p + 1 by omega, sc.2]
    split
    · assumption
    · by_cases a : r0 + (cw_sh A (x * wB A p) p + e - 1) < 0
      · rw [if_pos a]
      · rw [if_neg a, if_pos (by omega)]
theorem w_pre {A R : Nat} (hA : 3 ≤ A ∧ A ≤ 6) {K : Int} (hK : 1 ≤ K ∧ K ≤ 4) {g : Int → Int → Int} {pn : Int → Int} {G : Int → Int → Int} (hg : ∀ p r, 0 ≤ g p r) (hGv : cw_Gv R G) (hG : ∀ p r, 0 ≤ p → p < K * (A : Int) → 0 ≤ r → r < (R : Int) → G p r = if pn p < 0 ∨ pn p = r then g p r * 1048576 else -1) : ∀ (m p : Nat) (r0 x : Int), p + m + 1 = A → 0 ≤ x ∧ x < ((3 ^ p : Nat) : Int) → (∀ j : Nat, j ≤ p → 0 ≤ r0 + cw_sh A (x * wB A p) j ∧ r0 + cw_sh A (x * wB A p) j < (R : Int)) → w_at A R K g pn G p r0 x := by
  have mA := w_mA hA hK
  intro m
  induction m with
  | zero =>
    intro p r0 x hp hx hr
    unfold w_at
    have ep : p = A - 1 := by omega
    subst ep
    have b1 : wB A (A - 1) = 1 := wB_l (by omega)
    rw [b1] at hr ⊢
    rw [Int.mul_one] at hr ⊢
    have xc : wc A (A - 1) x = x := by
      unfold wc
      rw [show A - 1 - (A - 1) = 0 by omega]
      simp
    have hc : 0 ≤ x ∧ x < cw_N A := hx
    have v : wv A R 0 r0 x := fun i hi => by
      refine ⟨hr i (by omega), ?_⟩
      rw [show (0 : Int) + (i : Int) = (i : Int) by omega, Int.ediv_eq_zero_of_lt (by omega) (by omega)]
      exact (hr i (by omega)).1
    have e := dp_eq hA hK.1 hg hG (K * (A : Int) - (A : Int)).toNat r0 x (by omega) hc (by rw [show K * (A : Int) - (A : Int) - (((K * (A : Int) - (A : Int)).toNat : Nat) : Int) = 0 by omega]; exact v)
    have el : (K * (A : Int) - 1 - ((A - 1 : Nat) : Int)).toNat = (K * (A : Int) - (A : Int)).toNat := by omega
    have ok := rf_F_ok (A := A) (R := R) (n := K * (A : Int)) (pn := pn) hg (K * (A : Int) - (A : Int)).toNat (r0 + cw_sh A x (A - 1)) x
    have eg : K * (A : Int) - 1 - (((K * (A : Int) - (A : Int)).toNat : Nat) : Int) = ((A - 1 : Nat) : Int) := by omega
    rw [eg] at e ok
    have g0 := hg ((A - 1 : Nat) : Int) (r0 + cw_sh A x (A - 1))
    have rr := hr (A - 1) (Nat.le_refl _)
    have gg := hG ((A - 1 : Nat) : Int) (r0 + cw_sh A x (A - 1)) (by omega) (by omega) rr.1 rr.2
    rw [show (1 : Int).toNat = 1 from rfl, cw_fo, cw_fo, cw_0_bt, xc, el]
    unfold wX
    rw [show A - (A - 1) = 0 + 1 by omega, cw_ww, cw_ww, ← e, show (((A - 1 : Nat) : Int)).toNat = A - 1 by omega]
    by_cases pk : pn ((A - 1 : Nat) : Int) < 0 ∨ pn ((A - 1 : Nat) : Int) = r0 + cw_sh A x (A - 1)
    · rw [if_pos pk] at gg ⊢
      rw [gg, ← sf_ec1 g0 ok]
      unfold sf
      by_cases z : ec1 (g ((A - 1 : Nat) : Int) (r0 + cw_sh A x (A - 1))) (rf_F A R (K * (A : Int)) g pn (K * (A : Int) - (A : Int)).toNat (r0 + cw_sh A x (A - 1)) x) = 0
      · rw [if_pos z, if_pos z, z]
      · rw [if_neg z, if_neg z, if_neg (by omega), if_neg (by omega), if_neg (by omega)]
    · rw [if_neg pk] at gg ⊢
      rw [gg]
      split
      · assumption
      · rw [if_neg (by omega), if_neg (by omega), if_pos rfl]
  | succ m ih =>
    intro p r0 x hp hx hr
    unfold w_at
    have hp1 : p + 1 < A := by omega
    have b3 := wB_3 hp1
    have bp := wB_pos A (p + 1)
    have rp := hr p (Nat.le_refl _)
    have gg := hG (p : Int) (r0 + cw_sh A (x * wB A p) p) (by omega) (by omega) rp.1 rp.2
    have g0 := hg (p : Int) (r0 + cw_sh A (x * wB A p) p)
    have nb : ((wB A p).toNat : Int) = wB A p := by omega
    by_cases pk : pn p < 0 ∨ pn p = r0 + cw_sh A (x * wB A p) p
    · rw [if_pos pk]
      rw [cw_fo_e (h := fun c => sf (g p (r0 + cw_sh A (x * wB A p) p)) (wX A R K G r0 (p + 1) c)) (wB A p).toNat (x * wB A p) 0 (fun c c0 c1 => by rw [w_el hA hK hg hGv hG hp1 hx rp c0 (by omega), if_pos pk])]
      have s0 : sf (g p (r0 + cw_sh A (x * wB A p) p)) 0 = 0 := by unfold sf; rw [if_pos rfl]
      have wo : ∀ c, cw_ok 1000 (wX A R K G r0 (p + 1) c) := fun c => wX_ok hA hK hGv r0 (p + 1) c (by omega)
      have sfo := sf_fo (f := wX A R K G r0 (p + 1)) g0 (wB A p).toNat (x * wB A p) 0 (Or.inl rfl) (fun c _ _ => wo c)
      rw [s0] at sfo
      rw [sfo]
      have z : ∀ e : Int, 0 ≤ e ∧ e ≤ 2 → cw_fo (wX A R K G r0 (p + 1)) (wB A (p + 1)).toNat ((3 * x + e) * wB A (p + 1)) 0 = rf_y A R pn (rf_F A R (K * (A : Int)) g pn (K * (A : Int) - 2 - p).toNat) p (r0 + cw_sh A (x * wB A p) p) (wc A p x) (e - 1) := fun e he => w_zh hA hK hg hGv hG hp1 hx hr he (fun hr2 => ih (p + 1) r0 (3 * x + e) (by omega) ⟨by omega, by rw [Nat.pow_succ]; omega⟩ hr2)
      have z0 := z 0 (by decide)
      have z1 := z 1 (by decide)
      have z2 := z 2 (by decide)
      have n3 : (wB A p).toNat = (wB A (p + 1)).toNat + ((wB A (p + 1)).toNat + (wB A (p + 1)).toNat) := by omega
      have b3x : x * wB A p = 3 * x * wB A (p + 1) := by rw [b3, ← Int.mul_assoc, Int.mul_comm x 3]
      have nb1 : ((wB A (p + 1)).toNat : Int) = wB A (p + 1) := by omega
      have k0 : (3 * x + 0) * wB A (p + 1) = x * wB A p := by rw [Int.add_zero, b3x]
      have k1 : (3 * x + 1) * wB A (p + 1) = x * wB A p + wB A (p + 1) := by rw [Int.add_mul, b3x, Int.one_mul]
      have k2 : (3 * x + 2) * wB A (p + 1) = x * wB A p + wB A (p + 1) + wB A (p + 1) := by rw [Int.add_mul, b3x]; omega
      rw [k0] at z0
      rw [k1] at z1
      rw [k2] at z2
      rw [n3, cw_fo_2, cw_fo_2, nb1]
      have fo : ∀ (n : Nat) (i : Int), cw_ok 1000 (cw_fo (wX A R K G r0 (p + 1)) n i 0) := fun n i => cw_fo_ok n i 0 (Or.inl rfl) (fun c _ _ => wo c)
      rw [cw_fo_b (B := 1000) (wB A (p + 1)).toNat (x * wB A p + wB A (p + 1)) _ (fo _ _) (fun c _ _ => wo c), z0, z1]
      have okb : cw_ok 1000 (cw_bt (rf_y A R pn (rf_F A R (K * (A : Int)) g pn (K * (A : Int) - 2 - p).toNat) p (r0 + cw_sh A (x * wB A p) p) (wc A p x) (0 - 1)) (rf_y A R pn (rf_F A R (K * (A : Int)) g pn (K * (A : Int) - 2 - p).toNat) p (r0 + cw_sh A (x * wB A p) p) (wc A p x) (1 - 1))) := cw_bt_ok (by rw [← z0]; exact fo _ _) (by rw [← z1]; exact fo _ _)
      rw [cw_fo_b (B := 1000) (wB A (p + 1)).toNat (x * wB A p + wB A (p + 1) + wB A (p + 1)) _ okb (fun c _ _ => wo c), z2]
      have el2 : (K * (A : Int) - 1 - (p : Int)).toNat = (K * (A : Int) - 2 - p).toNat + 1 := by omega
      have s := rf_F_s (A := A) (R := R) (n := K * (A : Int)) (pn := pn) hg (K * (A : Int) - 2 - p).toNat (r0 + cw_sh A (x * wB A p) p) (wc A p x)
      have ok := rf_F_ok (A := A) (R := R) (n := K * (A : Int)) (pn := pn) hg ((K * (A : Int) - 2 - p).toNat + 1) (r0 + cw_sh A (x * wB A p) p) (wc A p x)
      rw [show K * (A : Int) - 2 - (((K * (A : Int) - 2 - p).toNat : Nat) : Int) = p by omega] at s
      rw [show K * (A : Int) - 1 - (((K * (A : Int) - 2 - p).toNat + 1 : Nat) : Int) = p by omega] at ok
      rw [show (0 : Int) - 1 = -1 by decide, show (1 : Int) - 1 = 0 by decide, show (2 : Int) - 1 = 1 by decide, ← s, sf_ec1 g0 ok, el2]
    · rw [if_neg pk]
      exact cw_fo_z _ _ (fun c c0 c1 => by rw [w_el hA hK hg hGv hG hp1 hx rp c0 (by omega), if_neg pk])
