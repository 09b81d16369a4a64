/-! ===== both windings: the best way on from a window, by the least radius ===== -/
/-- whether a best way of the reference goes on by a change -/
abbrev rn (A R : Nat) (n : Int) (g : Int → Int → Int) (pn : Int → Int) (l : Nat) (r c e : Int) : Prop := rm_go (A : Int) (R : Int) (pn (n - 2 - l + 1)) (n - 2 - l) r c (r + e) ∧ 0 ≤ (rf_F A R n g pn l (r + e) (rm_nc (cw_N A) c e)).1 ∧ (rf_F A R n g pn l (r + e) (rm_nc (cw_N A) c e)).1 + g (n - 2 - l) r = (rf_F A R n g pn (l + 1) r c).1
/-- the least change by which a best way goes on -/
def re (A R : Nat) (n : Int) (g : Int → Int → Int) (pn : Int → Int) (l : Nat) (r c : Int) : Int := if rn A R n g pn l r c (-1) then -1 else if rn A R n g pn l r c 0 then 0 else 1
/-- the radius j places on -/
def rp (A R : Nat) (n : Int) (g : Int → Int → Int) (pn : Int → Int) : Nat → Int → Int → Nat → Int
  | _, r, _, 0 => r
  | 0, r, _, _ + 1 => r
  | l + 1, r, c, j + 1 => rp A R n g pn l (r + re A R n g pn l r c) (rm_nc (cw_N A) c (re A R n g pn l r c)) j
theorem rn_y {A R : Nat} {n : Int} {g : Int → Int → Int} {pn : Int → Int} (hg : ∀ p r, 0 ≤ g p r) {l : Nat} {r c e : Int} (hF : 0 ≤ (rf_F A R n g pn (l + 1) r c).1) : rn A R n g pn l r c e ↔ (rf_y A R pn (rf_F A R n g pn l) (n - 2 - l) r c e ≠ 0 ∧ rf_y A R pn (rf_F A R n g pn l) (n - 2 - l) r c e / 1048576 = ec1 (g (n - 2 - l) r) (rf_F A R n g pn (l + 1) r c) / 1048576) := by
  have ok := rf_F_ok (A := A) (R := R) (n := n) (pn := pn) hg (l + 1) r c
  rw [show n - 1 - ((l + 1 : Nat) : Int) = n - 2 - l by omega] at ok
  have ok2 := rf_F_ok (A := A) (R := R) (n := n) (pn := pn) hg l (r + e) (rm_nc (cw_N A) c e)
  have g0 := hg (n - 2 - l) r
  have g1 := hg (n - 1 - l) (r + e)
  unfold rn rf_y ec ec1
  generalize rf_F A R n g pn (l + 1) r c = x at *
  generalize rf_F A R n g pn l (r + e) (rm_nc (cw_N A) c e) = y at *
  rw [if_neg (show ¬ x.1 < 0 by omega)]
  rcases ok with a | a
  · omega
  · by_cases go : rm_go (A : Int) (R : Int) (pn (n - 2 - l + 1)) (n - 2 - l) r c (r + e)
    · rw [if_pos go]
      rcases ok2 with b | b
      · rw [if_pos (show y.1 < 0 by omega)]
        exact ⟨fun z => by omega, fun z => absurd rfl z.1⟩
      · rw [if_neg (show ¬ y.1 < 0 by omega)]
        refine ⟨fun z => ⟨by omega, by omega⟩, fun z => ⟨go, by omega, by omega⟩⟩
    · rw [if_neg go]
      exact ⟨fun z => absurd z.1 go, fun z => absurd rfl z.1⟩
theorem cw_ch_ok {A R : Nat} {K : Int} {G : Int → Int → Int} (hG : cw_Gv R G) (hK : K * (A : Int) ≤ 24) {fa : Bool} {l : Nat} {r c : Int} (hl : ((l + 1 : Nat) : Int) ≤ K * (A : Int)) (h : cw_A A R K G (l + 1) r c ≠ 0) : cw_on R G (cw_A A R K G l (r + cw_sh A c 1) (cw_ta A c + cw_ch A R K G fa l r c)) (K * (A : Int) - (l + 1)) (r + cw_sh A c (A - 1) - 1 + cw_ch A R K G fa l r c) ≠ 0 ∧ cw_on R G (cw_A A R K G l (r + cw_sh A c 1) (cw_ta A c + cw_ch A R K G fa l r c)) (K * (A : Int) - (l + 1)) (r + cw_sh A c (A - 1) - 1 + cw_ch A R K G fa l r c) / 1048576 = cw_A A R K G (l + 1) r c / 1048576 := by
  have h2 := h
  rw [cw_A] at h2
  by_cases a : r + cw_sh A c 1 < cw_lo A K l
  · rw [if_pos a] at h2; exact absurd rfl h2
  · rw [if_neg a] at h2
    by_cases b : (R : Int) - K + cw_lo A K l < r + cw_sh A c 1
    · rw [if_pos b] at h2; exact absurd rfl h2
    · rw [if_neg b] at h2
      have ok : ∀ j : Int, cw_ok (9 * (l : Int) + 9) (cw_on R G (cw_A A R K G l (r + cw_sh A c 1) (cw_ta A c + j)) (K * (A : Int) - (l + 1)) (r + cw_sh A c (A - 1) - 1 + j)) := fun j => cw_on_ok hG (by omega) (cw_A_ok hG hK l _ _ (by omega))
      have e : cw_A A R K G (l + 1) r c = cw_fo (fun ch => cw_on R G (cw_A A R K G l (r + cw_sh A c 1) (cw_ta A c + ch)) (K * (A : Int) - (l + 1)) (r + cw_sh A c (A - 1) - 1 + ch)) (3 - cw_lc A c).toNat (cw_lc A c) 0 := by rw [cw_A, if_neg a, if_neg b]
      rcases cw_fo_ne _ _ _ (Or.inl rfl) (fun j _ _ => ok j) h2 with q | ⟨j, j1, j2⟩
      · exact absurd rfl q.1
      · have j2 := j2
        rw [← e] at j2
        have lc0 : 0 ≤ cw_lc A c := by unfold cw_lc; omega
        have f := cw_ff_in (ok := fun ch => decide (cw_on R G (cw_A A R K G l (r + cw_sh A c 1) (cw_ta A c + ch)) (K * (A : Int) - (l + 1)) (r + cw_sh A c (A - 1) - 1 + ch) ≠ 0 ∧ cw_on R G (cw_A A R K G l (r + cw_sh A c 1) (cw_ta A c + ch)) (K * (A : Int) - (l + 1)) (r + cw_sh A c (A - 1) - 1 + ch) / 1048576 = cw_A A R K G (l + 1) r c / 1048576)) (t := fun i => if fa then 2 + cw_lc A c - i else i) (dflt := 1) (3 - cw_lc A c).toNat (cw_lc A c) (if fa then 2 + cw_lc A c - j else j) (by split <;> omega) (by split <;> omega) (by
          have e2 : (if fa = true then 2 + cw_lc A c - (if fa = true then 2 + cw_lc A c - j else j) else (if fa = true then 2 + cw_lc A c - j else j)) = j := by
            cases fa
            · rfl
            · show 2 + cw_lc A c - (2 + cw_lc A c - j) = j
              omega
          rw [e2]
          exact decide_eq_true j2)
        obtain ⟨f1, k, f2, f3⟩ := f
        have d : cw_ch A R K G fa l r c = cw_ff (fun ch => decide (cw_on R G (cw_A A R K G l (r + cw_sh A c 1) (cw_ta A c + ch)) (K * (A : Int) - (l + 1)) (r + cw_sh A c (A - 1) - 1 + ch) ≠ 0 ∧ cw_on R G (cw_A A R K G l (r + cw_sh A c 1) (cw_ta A c + ch)) (K * (A : Int) - (l + 1)) (r + cw_sh A c (A - 1) - 1 + ch) / 1048576 = cw_A A R K G (l + 1) r c / 1048576)) (fun i => if fa then 2 + cw_lc A c - i else i) 1 (3 - cw_lc A c).toNat (cw_lc A c) := rfl
        rw [← d] at f1 f3
        exact of_decide_eq_true f1
/-- from a window on, both go the same best way -/
theorem tr_eq {A R : Nat} (hA : 3 ≤ A ∧ A ≤ 6) {K : Int} (hK : 1 ≤ K ∧ K ≤ 4) {g : Int → Int → Int} {pn : Int → Int} {G : Int → Int → Int} (hg : ∀ p r, 0 ≤ g p r) (hGv : cw_Gv R G) (hG : ∀ p r, 0 ≤ p → p < K * (A : Int) → 0 ≤ r → r < (R : Int) → G p r = if pn p < 0 ∨ pn p = r then g p r * 1048576 else -1) : ∀ (l k : Nat) (r c : Int), (l : Int) ≤ K * (A : Int) - (A : Int) → 0 ≤ c ∧ c < cw_N A → wv A R (K * (A : Int) - (A : Int) - l) r c → cw_A A R K G l r c ≠ 0 → k < l → cw_tv A R K G false l r c k = rp A R (K * (A : Int)) g pn l (r + cw_sh A c (A - 1)) c (k + 1)
  | 0, k, r, c, _, _, _, _, h => by omega
  | l + 1, k, r, c, hl, hc, v, hne, hk => by
    have mA : K * (A : Int) ≤ 24 := by
      rcases (by omega : A = 3 ∨ A = 4 ∨ A = 5 ∨ A = 6) with rfl | rfl | rfl | rfl <;> omega
    have e := dp_eq hA hK.1 hg hG (l + 1) r c hl hc v
    rw [show K * (A : Int) - 1 - ((l + 1 : Nat) : Int) = K * (A : Int) - 2 - l by omega] at e
    have hF : 0 ≤ (rf_F A R (K * (A : Int)) g pn (l + 1) (r + cw_sh A c (A - 1)) c).1 := by
      by_cases q : (rf_F A R (K * (A : Int)) g pn (l + 1) (r + cw_sh A c (A - 1)) c).1 < 0
      · unfold ec1 at e
        rw [if_pos q] at e
        exact absurd e.symm hne
      · omega
    have Y := dp_yh hA hg hG l (fun r c hc v => dp_eq hA hK.1 hg hG l r c (by omega) hc v) hl hc v
    have ci := cw_ch_in (A := A) (R := R) (fa := false) hGv mA (l := l) (r := r) (c := c) (by omega) hne
    -- the same change
    have same : cw_ch A R K G false l r c - 1 = re A R (K * (A : Int)) g pn l (r + cw_sh A c (A - 1)) c := by
      have nn : ∀ ch : Nat, ch < 3 → (rn A R (K * (A : Int)) g pn l (r + cw_sh A c (A - 1)) c ((ch : Int) - 1) ↔ cw_lc A c ≤ ch ∧ cw_on R G (cw_A A R K G l (r + cw_sh A c 1) (cw_ta A c + ch)) (K * (A : Int) - (l + 1)) (r + cw_sh A c (A - 1) - 1 + ch) ≠ 0 ∧ cw_on R G (cw_A A R K G l (r + cw_sh A c 1) (cw_ta A c + ch)) (K * (A : Int) - (l + 1)) (r + cw_sh A c (A - 1) - 1 + ch) / 1048576 = cw_A A R K G (l + 1) r c / 1048576) := by
        intro ch hch
        rw [rn_y hg hF, e, Y ch hch]
        by_cases q : cw_lc A c ≤ ch
        · rw [if_pos q]
          exact ⟨fun z => ⟨q, z⟩, fun z => z.2⟩
        · rw [if_neg q]
          exact ⟨fun z => absurd rfl z.1, fun z => absurd z.1 q⟩
      have n0 := nn 0 (by decide)
      have n1 := nn 1 (by decide)
      have n2 := nn 2 (by decide)
      rw [show (((0 : Nat) : Int) - 1) = -1 by decide, show ((0 : Nat) : Int) = 0 by decide] at n0
      rw [show (((1 : Nat) : Int) - 1) = 0 by decide, show ((1 : Nat) : Int) = 1 by decide] at n1
      have l0 : 0 ≤ cw_lc A c := by unfold cw_lc; omega
      have lb := ci.2.1
      unfold cw_ch at lb ⊢
      unfold re
      generalize hok : (fun ch : Int => decide (cw_on R G (cw_A A R K G l (r + cw_sh A c 1) (cw_ta A c + ch)) (K * (A : Int) - (l + 1)) (r + cw_sh A c (A - 1) - 1 + ch) ≠ 0 ∧ cw_on R G (cw_A A R K G l (r + cw_sh A c 1) (cw_ta A c + ch)) (K * (A : Int) - (l + 1)) (r + cw_sh A c (A - 1) - 1 + ch) / 1048576 = cw_A A R K G (l + 1) r c / 1048576)) = ok at lb ⊢
      have o0 : rn A R (K * (A : Int)) g pn l (r + cw_sh A c (A - 1)) c (-1) ↔ cw_lc A c ≤ 0 ∧ ok 0 = true := by rw [n0, ← hok]; exact ⟨fun z => ⟨z.1, decide_eq_true z.2⟩, fun z => ⟨z.1, of_decide_eq_true z.2⟩⟩
      have o1 : rn A R (K * (A : Int)) g pn l (r + cw_sh A c (A - 1)) c 0 ↔ cw_lc A c ≤ 1 ∧ ok 1 = true := by rw [n1, ← hok]; exact ⟨fun z => ⟨z.1, decide_eq_true z.2⟩, fun z => ⟨z.1, of_decide_eq_true z.2⟩⟩
      have lc3 : cw_lc A c = 0 ∨ cw_lc A c = 1 ∨ cw_lc A c = 2 := by omega
      rcases lc3 with q | q | q
      · rw [q] at lb o0 o1 ⊢
        rw [show ((3 : Int) - 0).toNat = 3 by decide] at lb ⊢
        simp only [cw_ff, Bool.false_eq_true, if_false] at lb ⊢
        by_cases a : ok 0 = true
        · rw [if_pos a, if_pos (o0.mpr ⟨by decide, a⟩)]; rfl
        · rw [if_neg a, if_neg (fun z => a (o0.mp z).2)]
          by_cases b : ok (0 + 1) = true
          · rw [if_pos b, if_pos (o1.mpr ⟨by decide, b⟩)]; rfl
          · rw [if_neg b, if_neg (fun z => b (o1.mp z).2)]
            rw [if_neg a, if_neg b] at lb
            by_cases d : ok (0 + 1 + 1) = true
            · rw [if_pos d]; rfl
            · exfalso
              have w0 := cw_ch_ok hGv mA (fa := false) (l := l) (r := r) (c := c) (by omega) hne
              have w : ok (cw_ch A R K G false l r c) = true := by rw [← hok]; exact decide_eq_true w0
              unfold cw_ch at w
              rw [hok, q, show ((3 : Int) - 0).toNat = 3 by decide] at w
              simp only [cw_ff, Bool.false_eq_true, if_false] at w
              rw [if_neg a, if_neg b, if_neg d] at w
              exact b w
      · rw [q] at lb o0 o1 ⊢
        rw [show ((3 : Int) - 1).toNat = 2 by decide] at lb ⊢
        simp only [cw_ff, Bool.false_eq_true, if_false] at lb ⊢
        rw [if_neg (fun z => absurd (o0.mp z).1 (by decide))]
        by_cases b : ok 1 = true
        · rw [if_pos b, if_pos (o1.mpr ⟨by decide, b⟩)]; rfl
        · rw [if_neg b, if_neg (fun z => b (o1.mp z).2)]
          by_cases d : ok (1 + 1) = true
          · rw [if_pos d]; rfl
          · exfalso
            have w0 := cw_ch_ok hGv mA (fa := false) (l := l) (r := r) (c := c) (by omega) hne
            have w : ok (cw_ch A R K G false l r c) = true := by rw [← hok]; exact decide_eq_true w0
            unfold cw_ch at w
            rw [hok, q, show ((3 : Int) - 1).toNat = 2 by decide] at w
            simp only [cw_ff, Bool.false_eq_true, if_false] at w
            rw [if_neg b, if_neg d] at w
            exact b w
      · rw [q] at lb o0 o1 ⊢
        rw [show ((3 : Int) - 2).toNat = 1 by decide] at lb ⊢
        simp only [cw_ff, Bool.false_eq_true, if_false] at lb ⊢
        rw [if_neg (fun z => absurd (o0.mp z).1 (by decide)), if_neg (fun z => absurd (o1.mp z).1 (by decide))]
        by_cases d : ok 2 = true
        · rw [if_pos d]; rfl
        · rw [if_neg d] at lb
          omega
    have kq := (cw_cqs hA hc).2 (cw_ch A R K G false l r c).toNat (by omega)
    have lc0 : 0 ≤ cw_lc A c := by unfold cw_lc; omega
    have cn : (((cw_ch A R K G false l r c).toNat : Nat) : Int) = cw_ch A R K G false l r c := by omega
    rw [cn] at kq
    match k, hk with
    | 0, _ =>
      rw [cw_tv, rp, ← same]
      show _ = rp A R (K * (A : Int)) g pn l _ _ 0
      rw [rp]
      omega
    | k + 1, hk =>
      have on := cw_on_ne ci.2.2
      have up : r < r + cw_sh A c (A - 1) + (cw_ch A R K G false l r c).toNat - 1 := by
        have := ci.2.1.1
        unfold cw_lc at this
        omega
      have vn := wv_next hA (by omega) hc v (ch := (cw_ch A R K G false l r c).toNat) (by omega) (by omega) up
      rw [show K * (A : Int) - (A : Int) - ((l + 1 : Nat) : Int) + 1 = K * (A : Int) - (A : Int) - (l : Int) by omega, cn] at vn
      have tb := cw_tab3 hA hc (ch := (cw_ch A R K G false l r c).toNat) (by omega)
      rw [cn] at tb
      rw [cw_tv, rp, ← same, tr_eq hA hK hg hGv hG l k (r + cw_sh A c 1) (cw_ta A c + cw_ch A R K G false l r c) (by omega) tb vn on.2.1 (by omega), show r + cw_sh A c 1 + cw_sh A (cw_ta A c + cw_ch A R K G false l r c) (A - 1) = r + cw_sh A c (A - 1) + (cw_ch A R K G false l r c - 1) by omega, kq.1]
