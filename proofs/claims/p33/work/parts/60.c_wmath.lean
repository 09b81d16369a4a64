/-! ===== the class: windows as numbers, what a slice's best is, in plain words ===== -/
theorem ix_inj {x y c e N : Int} (hc : 0 ≤ c ∧ c < N) (he : 0 ≤ e ∧ e < N) (h : x * N + c = y * N + e) : x = y ∧ c = e := by
  have g : ∀ {x y c e : Int}, 0 ≤ c ∧ c < N → 0 ≤ e ∧ e < N → x * N + c = y * N + e → ¬ x < y := by
    intro x y c e hc he h l
    have m : (x + 1) * N ≤ y * N := Int.mul_le_mul_of_nonneg_right (by omega) (by omega)
    rw [Int.add_mul, Int.one_mul] at m
    omega
  have e1 : x = y := by
    have a := g hc he h
    have b := g he hc h.symm
    omega
  subst e1
  exact ⟨rfl, by omega⟩
theorem ix_b {x c N X : Int} (hx : 0 ≤ x ∧ x < X) (hc : 0 ≤ c ∧ c < N) : 0 ≤ x * N + c ∧ x * N + c < X * N := by
  have m0 : 0 ≤ x * N := Int.mul_nonneg hx.1 (by omega)
  have m : (x + 1) * N ≤ X * N := Int.mul_le_mul_of_nonneg_right (by omega) (by omega)
  rw [Int.add_mul, Int.one_mul] at m
  omega
theorem ix_d {x c N : Int} (hc : 0 ≤ c ∧ c < N) : (x * N + c) / N = x ∧ (x * N + c) % N = c := by
  have e := Int.mul_ediv_add_emod (x * N + c) N
  rw [Int.mul_comm] at e
  have b0 := Int.emod_nonneg (x * N + c) (b := N) (by omega)
  have b1 := Int.emod_lt_of_pos (x * N + c) (b := N) (by omega)
  exact ix_inj ⟨b0, b1⟩ hc e
theorem kx_shr {x : Int} (h : 0 ≤ x ∧ x < 2147483648) : ck_shr x 20 = x / 1048576 := by
  obtain ⟨n, e⟩ := kb_nat h.1
  rw [e, show (20 : Int) = ((20 : Nat) : Int) by rfl, kb_shr (by decide) (by omega)]
  rfl
theorem kx_and {x : Int} (h : 0 ≤ x ∧ x < 2147483648) : ck_and x 1048575 = x % 1048576 := by
  obtain ⟨n, e⟩ := kb_nat h.1
  rw [e, show (1048575 : Int) = ((1048575 : Nat) : Int) by rfl, kb_and (by omega), show (1048575 : Nat) = 2 ^ 20 - 1 by rfl, Nat.and_two_pow_sub_one_eq_mod]
  rfl
theorem kx_shl {x : Int} (h : 0 ≤ x ∧ x < 2048) : ck_shl x 20 = x * 1048576 := by
  obtain ⟨n, e⟩ := kb_nat h.1
  rw [e, show (20 : Int) = ((20 : Nat) : Int) by rfl, kb_shl (by decide) (by omega)]
  rfl
/-- the better of two numbers of FIT and ways -/
def cw_bt (x y : Int) : Int := if x = 0 then x + y else if y = 0 then x + y else if x / 1048576 = y / 1048576 then x / 1048576 * 1048576 + min 1000000 (x % 1048576 + y % 1048576) else max x y
def cw_ok (B x : Int) : Prop := x = 0 ∨ (0 ≤ x ∧ 1 ≤ x % 1048576 ∧ x % 1048576 ≤ 1000000 ∧ x / 1048576 ≤ B)
theorem cw_bt_ok {B x y : Int} (hx : cw_ok B x) (hy : cw_ok B y) : cw_ok B (cw_bt x y) := by
  unfold cw_bt cw_ok at *
  split
  · rcases hx with h | h <;> rcases hy with k | k <;> omega
  · split
    · rcases hx with h | h <;> rcases hy with k | k <;> omega
    · split
      · rcases hx with h | h
        · omega
        · rcases hy with k | k
          · omega
          · refine Or.inr ?_
            have m : min 1000000 (x % 1048576 + y % 1048576) ≤ 1000000 ∧ 1 ≤ min 1000000 (x % 1048576 + y % 1048576) := by omega
            generalize min 1000000 (x % 1048576 + y % 1048576) = v at *
            omega
      · rcases Int.le_total x y with l | l
        · rw [Int.max_eq_right l]; exact hy
        · rw [Int.max_eq_left l]; exact hx
theorem cw_bt_ne {B x y : Int} (hx : cw_ok B x) (hy : cw_ok B y) (h : cw_bt x y ≠ 0) : (x ≠ 0 ∧ x / 1048576 = cw_bt x y / 1048576) ∨ (y ≠ 0 ∧ y / 1048576 = cw_bt x y / 1048576) := by
  unfold cw_bt at *
  split at h
  · rename_i e
    rw [if_pos e]
    exact Or.inr ⟨by omega, by rw [e]; congr 1; omega⟩
  · rename_i e
    rw [if_neg e]
    split at h
    · rename_i f
      rw [if_pos f]
      exact Or.inl ⟨e, by rw [f]; congr 1; omega⟩
    · rename_i f
      rw [if_neg f]
      split at h
      · rename_i q
        rw [if_pos q]
        refine Or.inl ⟨e, ?_⟩
        unfold cw_ok at hx hy
        rcases hx with a | a
        · omega
        · rcases hy with b | b
          · omega
          · have m : min 1000000 (x % 1048576 + y % 1048576) ≤ 1000000 ∧ 1 ≤ min 1000000 (x % 1048576 + y % 1048576) := by omega
            generalize min 1000000 (x % 1048576 + y % 1048576) = v at *
            omega
      · rename_i q
        rw [if_neg q]
        rcases Int.le_total x y with l | l
        · rw [Int.max_eq_right l]; exact Or.inr ⟨f, rfl⟩
        · rw [Int.max_eq_left l]; exact Or.inl ⟨e, rfl⟩
def cw_fo (f : Int → Int) : Nat → Int → Int → Int
  | 0, _, b => b
  | n + 1, i, b => cw_fo f n (i + 1) (cw_bt b (f i))
theorem cw_fo_ok {B : Int} {f : Int → Int} : ∀ (n : Nat) (i b : Int), cw_ok B b → (∀ j, i ≤ j → j < i + n → cw_ok B (f j)) → cw_ok B (cw_fo f n i b)
  | 0, _, _, h, _ => h
  | n + 1, i, b, h, k => by
    rw [cw_fo]
    exact cw_fo_ok n (i + 1) _ (cw_bt_ok h (k i (by omega) (by omega))) (fun j x y => k j (by omega) (by omega))
theorem cw_fo_ne {B : Int} {f : Int → Int} : ∀ (n : Nat) (i b : Int), cw_ok B b → (∀ j, i ≤ j → j < i + n → cw_ok B (f j)) → cw_fo f n i b ≠ 0 → (b ≠ 0 ∧ b / 1048576 = cw_fo f n i b / 1048576) ∨ ∃ j, (i ≤ j ∧ j < i + n) ∧ f j ≠ 0 ∧ f j / 1048576 = cw_fo f n i b / 1048576
  | 0, _, _, _, _, h => Or.inl ⟨h, rfl⟩
  | n + 1, i, b, hb, k, h => by
    rw [cw_fo] at h ⊢
    have k0 := k i (by omega) (by omega)
    rcases cw_fo_ne n (i + 1) _ (cw_bt_ok hb k0) (fun j x y => k j (by omega) (by omega)) h with c | ⟨j, c1, c2⟩
    · rcases cw_bt_ne hb k0 c.1 with e | e
      · exact Or.inl ⟨e.1, e.2.trans c.2⟩
      · exact Or.inr ⟨i, ⟨by omega, by omega⟩, e.1, e.2.trans c.2⟩
    · exact Or.inr ⟨j, ⟨by omega, by omega⟩, c2⟩
/-- codes of windows, and what they say -/
def cw_N (A : Nat) : Int := ((3 ^ (A - 1) : Nat) : Int)
def cw_d1 (x : Int × Int × Int) : Int × Int × Int := (max 1 (x.1.tdiv 3), x.2.1.tmod (max 1 (x.1.tdiv 3)), x.2.2 + x.2.1.tdiv (max 1 (x.1.tdiv 3)) - 1)
def cw_ds (N c : Int) : Nat → Int × Int × Int
  | 0 => (N, c, 0)
  | i + 1 => cw_d1 (cw_ds N c i)
def cw_sh (A : Nat) (c : Int) (i : Nat) : Int := (cw_ds (cw_N A) c i).2.2
def cw_ta (A : Nat) (c : Int) : Int := (c * 3).tmod (cw_N A)
def cw_ck (A : Nat) : Bool := (List.range (3 ^ (A - 1))).all (fun c => (List.range A).all (fun i => decide (-5 ≤ cw_sh A (c : Int) i ∧ cw_sh A (c : Int) i ≤ 5)) && decide (-1 ≤ cw_sh A (c : Int) 1 ∧ cw_sh A (c : Int) 1 ≤ 1) && decide (0 ≤ cw_ta A (c : Int) ∧ cw_ta A (c : Int) + 2 < cw_N A))
theorem cw_ck3 : cw_ck 3 = true := by decide +kernel
theorem cw_ck4 : cw_ck 4 = true := by decide +kernel
theorem cw_ck5 : cw_ck 5 = true := by decide +kernel
theorem cw_ck6 : cw_ck 6 = true := by decide +kernel
theorem cw_cka {A : Nat} (h : 3 ≤ A ∧ A ≤ 6) : cw_ck A = true := by
  have : A = 3 ∨ A = 4 ∨ A = 5 ∨ A = 6 := by omega
  rcases this with e | e | e | e <;> subst e
  · exact cw_ck3
  · exact cw_ck4
  · exact cw_ck5
  · exact cw_ck6
theorem cw_cks {A : Nat} (h : 3 ≤ A ∧ A ≤ 6) {c : Int} (hc : 0 ≤ c ∧ c < cw_N A) : (∀ i, i < A → -5 ≤ cw_sh A c i ∧ cw_sh A c i ≤ 5) ∧ (-1 ≤ cw_sh A c 1 ∧ cw_sh A c 1 ≤ 1) ∧ (0 ≤ cw_ta A c ∧ cw_ta A c + 2 < cw_N A) := by
  have k := cw_cka h
  unfold cw_ck at k
  have e : ((c.toNat : Nat) : Int) = c := by omega
  have a := List.all_eq_true.mp k c.toNat (List.mem_range.mpr (by unfold cw_N at hc; omega))
  rw [e] at a
  simp only [Bool.and_eq_true, decide_eq_true_eq] at a
  refine ⟨fun i hi => ?_, a.1.2, a.2⟩
  have b := List.all_eq_true.mp a.1.1 i (List.mem_range.mpr hi)
  simpa only [decide_eq_true_eq] using b
theorem cw_Nb {A : Nat} (h : 3 ≤ A ∧ A ≤ 6) : 9 ≤ cw_N A ∧ cw_N A ≤ 243 := by
  have : A = 3 ∨ A = 4 ∨ A = 5 ∨ A = 6 := by omega
  rcases this with e | e | e | e <;> subst e <;> decide
/-- the fewest that the next place must rise -/
def cw_lc (A : Nat) (c : Int) : Int := max 0 (2 - cw_sh A c (A - 1))
/-- by way of a window whose last place has a radius -/
def cw_on (R : Nat) (G : Int → Int → Int) (x p r : Int) : Int := if r < 0 then 0 else if (R : Int) ≤ r then 0 else if x = 0 then 0 else if G p r = -1 then 0 else x + G p r
/-- the turn of the first place of a window with l places to come -/
def cw_lo (A : Nat) (K l : Int) : Int := (K * (A : Int) - l - (A : Int)) / (A : Int)
/-- best FIT and ways of l places to come behind a window -/
def cw_A (A R : Nat) (K : Int) (G : Int → Int → Int) : Nat → Int → Int → Int
  | 0, _, _ => 1
  | l + 1, r, c => if r + cw_sh A c 1 < cw_lo A K l then 0 else if (R : Int) - K + cw_lo A K l < r + cw_sh A c 1 then 0 else cw_fo (fun ch => cw_on R G (cw_A A R K G l (r + cw_sh A c 1) (cw_ta A c + ch)) (K * (A : Int) - (l + 1)) (r + cw_sh A c (A - 1) - 1 + ch)) (3 - cw_lc A c).toNat (cw_lc A c) 0
/-- what a place adds -/
def cw_Gv (R : Nat) (G : Int → Int → Int) : Prop := ∀ p r, 0 ≤ r → r < (R : Int) → 0 ≤ p → p < 24 → G p r = -1 ∨ ∃ g, 0 ≤ g ∧ g ≤ 9 ∧ G p r = g * 1048576
theorem cw_on_ok {R : Nat} {G : Int → Int → Int} (hG : cw_Gv R G) {B x p r : Int} (hp : 0 ≤ p ∧ p < 24) (h : cw_ok B x) : cw_ok (B + 9) (cw_on R G x p r) := by
  unfold cw_on
  split
  · exact Or.inl rfl
  · split
    · exact Or.inl rfl
    · split
      · exact Or.inl rfl
      · split
        · exact Or.inl rfl
        · rcases hG p r (by omega) (by omega) hp.1 hp.2 with e | ⟨g, g0, g1, e⟩
          · omega
          · rw [e]
            unfold cw_ok at *
            omega
theorem cw_on_ne {R : Nat} {G : Int → Int → Int} {x p r : Int} (h : cw_on R G x p r ≠ 0) : (0 ≤ r ∧ r < (R : Int)) ∧ x ≠ 0 ∧ G p r ≠ -1 ∧ cw_on R G x p r = x + G p r := by
  unfold cw_on at *
  by_cases a : r < 0
  · rw [if_pos a] at h; exact absurd rfl h
  · rw [if_neg a] at h ⊢
    by_cases b : (R : Int) ≤ r
    · rw [if_pos b] at h; exact absurd rfl h
    · rw [if_neg b] at h ⊢
      by_cases c : x = 0
      · rw [if_pos c] at h; exact absurd rfl h
      · rw [if_neg c] at h ⊢
        by_cases e : G p r = -1
        · rw [if_pos e] at h; exact absurd rfl h
        · rw [if_neg e]; exact ⟨by omega, c, e, rfl⟩
theorem cw_A_ok {A R : Nat} {K : Int} {G : Int → Int → Int} (hG : cw_Gv R G) (hK : K * (A : Int) ≤ 24) : ∀ (l : Nat) (r c : Int), (l : Int) ≤ K * (A : Int) → cw_ok (9 * l) (cw_A A R K G l r c)
  | 0, _, _, _ => by rw [cw_A]; unfold cw_ok; omega
  | l + 1, r, c, hl => by
    rw [cw_A]
    split
    · exact Or.inl rfl
    · split
      · exact Or.inl rfl
      · refine cw_fo_ok _ _ _ (Or.inl rfl) (fun j _ _ => ?_)
        have i := cw_A_ok hG hK l (r + cw_sh A c 1) (cw_ta A c + j) (by omega)
        have o := cw_on_ok hG (p := K * (A : Int) - (l + 1)) (r := r + cw_sh A c (A - 1) - 1 + j) (by omega) i
        rw [show (9 : Int) * ((l + 1 : Nat) : Int) = 9 * (l : Int) + 9 by omega]
        exact o
/-- codes that no place can follow -/
theorem cw_A_dead {A R : Nat} {K : Int} {G : Int → Int → Int} {l : Nat} {r c : Int} (h : cw_sh A c (A - 1) < 0) : cw_A A R K G (l + 1) r c = 0 := by
  rw [cw_A]
  split
  · rfl
  · split
    · rfl
    · have e : (3 - cw_lc A c).toNat = 0 := by unfold cw_lc; omega
      rw [e, cw_fo]
theorem cw_lob {A : Nat} {K l : Int} (hA : 3 ≤ (A : Int)) (h0 : 0 ≤ l) (h : l ≤ K * (A : Int) - (A : Int)) : 0 ≤ cw_lo A K l ∧ cw_lo A K l ≤ K - 1 := by
  unfold cw_lo
  refine ⟨Int.ediv_nonneg (by omega) (by omega), Int.ediv_le_of_le_mul (by omega) ?_⟩
  rw [Int.sub_mul, Int.one_mul]
  omega
/-- all of a first window -/
def cw_ww (A R : Nat) (G : Int → Int → Int) (r c : Int) : Nat → Int → Int → Int
  | 0, _, x => x
  | n + 1, p, x => if x = 0 then x else if r + cw_sh A c p.toNat < 0 then 0 else if (R : Int) ≤ r + cw_sh A c p.toNat then 0 else if G p (r + cw_sh A c p.toNat) = -1 then 0 else cw_ww A R G r c n (p + 1) (x + G p (r + cw_sh A c p.toNat))
theorem cw_ww_ok {A R : Nat} {G : Int → Int → Int} (hG : cw_Gv R G) {r c : Int} : ∀ (n : Nat) (p x B : Int), 0 ≤ p → p + n ≤ 24 → cw_ok B x → cw_ok (B + 9 * n) (cw_ww A R G r c n p x)
  | 0, _, x, B, _, _, h => by rw [cw_ww]; unfold cw_ok at *; omega
  | n + 1, p, x, B, hp, hn, h => by
    rw [cw_ww]
    split
    · rename_i e; exact Or.inl e
    · split
      · exact Or.inl rfl
      · split
        · exact Or.inl rfl
        · split
          · exact Or.inl rfl
          · have i := cw_ww_ok hG (A := A) (r := r) (c := c) n (p + 1) (x + G p (r + cw_sh A c p.toNat)) (B + 9) (by omega) (by omega) (by
              rcases hG p (r + cw_sh A c p.toNat) (by omega) (by omega) hp (by omega) with e | ⟨g, g0, g1, e⟩
              · omega
              · rw [e]; unfold cw_ok at *; omega)
            rw [show B + 9 * ((n + 1 : Nat) : Int) = B + 9 + 9 * (n : Int) by omega]
            exact i
theorem cw_ww_ne {A R : Nat} {G : Int → Int → Int} {r c : Int} : ∀ (n : Nat) (p x : Int), 0 ≤ p → cw_ww A R G r c n p x ≠ 0 → x ≠ 0 ∧ ∀ q : Int, p ≤ q → q < p + n → (0 ≤ r + cw_sh A c q.toNat ∧ r + cw_sh A c q.toNat < (R : Int)) ∧ G q (r + cw_sh A c q.toNat) ≠ -1
  | 0, _, x, _, h => ⟨h, fun q a b => by omega⟩
  | n + 1, p, x, hp, h => by
    rw [cw_ww] at h
    by_cases a : x = 0
    · rw [if_pos a] at h; exact absurd a h
    · rw [if_neg a] at h
      by_cases b : r + cw_sh A c p.toNat < 0
      · rw [if_pos b] at h; exact absurd rfl h
      · rw [if_neg b] at h
        by_cases e : (R : Int) ≤ r + cw_sh A c p.toNat
        · rw [if_pos e] at h; exact absurd rfl h
        · rw [if_neg e] at h
          by_cases f : G p (r + cw_sh A c p.toNat) = -1
          · rw [if_pos f] at h; exact absurd rfl h
          · rw [if_neg f] at h
            have i := cw_ww_ne n (p + 1) _ (by omega) h
            refine ⟨a, fun q q0 q1 => ?_⟩
            by_cases g : q = p
            · rw [g]; exact ⟨by omega, f⟩
            · exact i.2 q (by omega) (by omega)
/-- the best that begins with a window, by its number -/
def cw_wi (A R : Nat) (K : Int) (G : Int → Int → Int) (i : Int) : Int := cw_ww A R G (i / cw_N A) (i % cw_N A) A 0 (cw_A A R K G (K * (A : Int) - (A : Int)).toNat (i / cw_N A) (i % cw_N A))
/-- the best of all -/
def cw_be (A R : Nat) (K : Int) (G : Int → Int → Int) : Int := cw_fo (cw_wi A R K G) (((R : Int) - K + 1) * cw_N A).toNat 0 0
/-- the first that is so, by an order of trial -/
def cw_ff (ok : Int → Bool) (t : Int → Int) (dflt : Int) : Nat → Int → Int
  | 0, _ => dflt
  | n + 1, i => if ok (t i) = true then t i else cw_ff ok t dflt n (i + 1)
theorem cw_ff_in {ok : Int → Bool} {t : Int → Int} {dflt : Int} : ∀ (n : Nat) (i j : Int), i ≤ j → j < i + n → ok (t j) = true → ok (cw_ff ok t dflt n i) = true ∧ ∃ k, (i ≤ k ∧ k < i + n) ∧ cw_ff ok t dflt n i = t k
  | 0, i, j, h0, h1, _ => by omega
  | n + 1, i, j, h0, h1, h => by
    rw [cw_ff]
    by_cases a : ok (t i) = true
    · rw [if_pos a]; exact ⟨a, i, ⟨by omega, by omega⟩, rfl⟩
    · rw [if_neg a]
      by_cases e : j = i
      · rw [e] at h; exact absurd h a
      · obtain ⟨b1, k, b2, b3⟩ := cw_ff_in (dflt := dflt) n (i + 1) j (by omega) (by omega) h
        exact ⟨b1, k, ⟨by omega, by omega⟩, b3⟩
/-- the window that is traced from: the first of the best, from below or from above -/
def cw_w0 (A R : Nat) (K : Int) (G : Int → Int → Int) (fa : Bool) : Int := cw_ff (fun i => decide (cw_wi A R K G i ≠ 0 ∧ cw_wi A R K G i / 1048576 = cw_be A R K G / 1048576)) (fun i => if fa then ((R : Int) - K + 1) * cw_N A - 1 - i else i) 0 (((R : Int) - K + 1) * cw_N A).toNat 0
/-- the change by which a window with l + 1 places to come goes on -/
def cw_ch (A R : Nat) (K : Int) (G : Int → Int → Int) (fa : Bool) (l : Nat) (r c : Int) : Int := cw_ff (fun ch => decide (cw_on R G (cw_A A R K G l (r + cw_sh A c 1) (cw_ta A c + ch)) (K * (A : Int) - (l + 1)) (r + cw_sh A c (A - 1) - 1 + ch) ≠ 0 ∧ cw_on R G (cw_A A R K G l (r + cw_sh A c 1) (cw_ta A c + ch)) (K * (A : Int) - (l + 1)) (r + cw_sh A c (A - 1) - 1 + ch) / 1048576 = cw_A A R K G (l + 1) r c / 1048576)) (fun i => if fa then 2 + cw_lc A c - i else i) 1 (3 - cw_lc A c).toNat (cw_lc A c)
/-- the radius of the k-th of l places to come behind a window -/
def cw_tv (A R : Nat) (K : Int) (G : Int → Int → Int) (fa : Bool) : Nat → Int → Int → Nat → Int
  | 0, _, _, _ => 0
  | l + 1, r, c, 0 => r + cw_sh A c (A - 1) + cw_ch A R K G fa l r c - 1
  | l + 1, r, c, k + 1 => cw_tv A R K G fa l (r + cw_sh A c 1) (cw_ta A c + cw_ch A R K G fa l r c) k
/-- a best way goes on -/
theorem cw_ch_in {A R : Nat} {K : Int} {G : Int → Int → Int} (hG : cw_Gv R G) (hK : K * (A : Int) ≤ 24) {fa : Bool} {l : Nat} {r c : Int} (hl : ((l + 1 : Nat) : Int) ≤ K * (A : Int)) (h : cw_A A R K G (l + 1) r c ≠ 0) : (cw_lo A K l ≤ r + cw_sh A c 1 ∧ r + cw_sh A c 1 ≤ (R : Int) - K + cw_lo A K l) ∧ (cw_lc A c ≤ cw_ch A R K G fa l r c ∧ cw_ch A R K G fa l r c ≤ 2) ∧ cw_on R G (cw_A A R K G l (r + cw_sh A c 1) (cw_ta A c + cw_ch A R K G fa l r c)) (K * (A : Int) - (l + 1)) (r + cw_sh A c (A - 1) - 1 + cw_ch A R K G fa l r c) ≠ 0 := by
  have h2 := h
  rw [cw_A] at h2
  by_cases a : r + cw_sh A c 1 < cw_lo A K l
  · rw [if_pos a] at h2; exact absurd rfl h2
  · rw [if_neg a] at h2
    by_cases b : (R : Int) - K + cw_lo A K l < r + cw_sh A c 1
    · rw [if_pos b] at h2; exact absurd rfl h2
    · rw [if_neg b] at h2
      have ok : ∀ j : Int, cw_ok (9 * (l : Int) + 9) (cw_on R G (cw_A A R K G l (r + cw_sh A c 1) (cw_ta A c + j)) (K * (A : Int) - (l + 1)) (r + cw_sh A c (A - 1) - 1 + j)) := fun j => cw_on_ok hG (by omega) (cw_A_ok hG hK l _ _ (by omega))
      have e : cw_A A R K G (l + 1) r c = cw_fo (fun ch => cw_on R G (cw_A A R K G l (r + cw_sh A c 1) (cw_ta A c + ch)) (K * (A : Int) - (l + 1)) (r + cw_sh A c (A - 1) - 1 + ch)) (3 - cw_lc A c).toNat (cw_lc A c) 0 := by rw [cw_A, if_neg a, if_neg b]
      rcases cw_fo_ne _ _ _ (Or.inl rfl) (fun j _ _ => ok j) h2 with q | ⟨j, j1, j2⟩
      · exact absurd rfl q.1
      · have j2 := j2
        rw [← e] at j2
        have lc0 : 0 ≤ cw_lc A c := by unfold cw_lc; omega
        have f := cw_ff_in (ok := fun ch => decide (cw_on R G (cw_A A R K G l (r + cw_sh A c 1) (cw_ta A c + ch)) (K * (A : Int) - (l + 1)) (r + cw_sh A c (A - 1) - 1 + ch) ≠ 0 ∧ cw_on R G (cw_A A R K G l (r + cw_sh A c 1) (cw_ta A c + ch)) (K * (A : Int) - (l + 1)) (r + cw_sh A c (A - 1) - 1 + ch) / 1048576 = cw_A A R K G (l + 1) r c / 1048576)) (t := fun i => if fa then 2 + cw_lc A c - i else i) (dflt := 1) (3 - cw_lc A c).toNat (cw_lc A c) (if fa then 2 + cw_lc A c - j else j) (by split <;> omega) (by split <;> omega) (by
          have e2 : (if fa = true then 2 + cw_lc A c - (if fa = true then 2 + cw_lc A c - j else j) else (if fa = true then 2 + cw_lc A c - j else j)) = j := by
            cases fa
            · rfl
            · show 2 + cw_lc A c - (2 + cw_lc A c - j) = j
              omega
          rw [e2]
          exact decide_eq_true j2)
        obtain ⟨f1, k, f2, f3⟩ := f
        have d : cw_ch A R K G fa l r c = cw_ff (fun ch => decide (cw_on R G (cw_A A R K G l (r + cw_sh A c 1) (cw_ta A c + ch)) (K * (A : Int) - (l + 1)) (r + cw_sh A c (A - 1) - 1 + ch) ≠ 0 ∧ cw_on R G (cw_A A R K G l (r + cw_sh A c 1) (cw_ta A c + ch)) (K * (A : Int) - (l + 1)) (r + cw_sh A c (A - 1) - 1 + ch) / 1048576 = cw_A A R K G (l + 1) r c / 1048576)) (fun i => if fa then 2 + cw_lc A c - i else i) 1 (3 - cw_lc A c).toNat (cw_lc A c) := rfl
        rw [← d] at f1 f3
        refine ⟨by omega, ?_, (of_decide_eq_true f1).1⟩
        rw [f3]
        split <;> omega
