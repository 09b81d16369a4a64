/-! ===== both windings, as tables: what one state is to the other ===== -/
/-- one change from a state, by the table F of the next place -/
def rf_s (A R : Nat) (pn : Int → Int) (F : Int → Int → Int × Int) (g p r c e : Int) (s : Int × Int) : Int × Int := if rm_go (A : Int) (R : Int) (pn (p + 1)) p r c (r + e) then rm_cb s (F (r + e) (rm_nc (cw_N A) c e)).1 g (F (r + e) (rm_nc (cw_N A) c e)).2 else s
/-- fit and number of a state with l places to come -/
def rf_F (A R : Nat) (n : Int) (g : Int → Int → Int) (pn : Int → Int) : Nat → Int → Int → Int × Int
  | 0, r, _ => (g (n - 1) r, 1)
  | l + 1, r, c => rf_s A R pn (rf_F A R n g pn l) (g (n - 2 - l) r) (n - 2 - l) r c 1 (rf_s A R pn (rf_F A R n g pn l) (g (n - 2 - l) r) (n - 2 - l) r c 0 (rf_s A R pn (rf_F A R n g pn l) (g (n - 2 - l) r) (n - 2 - l) r c (-1) (-1, 0)))
def ec (x : Int × Int) : Int := if x.1 < 0 then 0 else x.1 * 1048576 + x.2
def ec1 (g : Int) (s : Int × Int) : Int := if s.1 < 0 then 0 else (s.1 - g) * 1048576 + s.2
def rf_ok (g : Int) (s : Int × Int) : Prop := (s.1 = -1 ∧ s.2 = 0) ∨ (g ≤ s.1 ∧ 1 ≤ s.2 ∧ s.2 ≤ 1000000)
theorem rf_ok0 {g : Int} : rf_ok g (-1, 0) := Or.inl ⟨rfl, rfl⟩
theorem rm_cb_ok {g f m : Int} {s : Int × Int} (hg : 0 ≤ g) (hs : rf_ok g s) (hx : (f = -1 ∧ m = 0) ∨ (0 ≤ f ∧ 1 ≤ m ∧ m ≤ 1000000)) : rf_ok g (rm_cb s f g m) := by
  unfold rm_cb
  split
  · exact hs
  · rename_i q
    right
    rcases hx with x | x
    · omega
    · rcases hs with y | y
      · split
        · refine ⟨?_, ?_, ?_⟩ <;> dsimp only <;> omega
        · refine ⟨?_, ?_, ?_⟩ <;> dsimp only <;> omega
      · split
        · refine ⟨?_, ?_, ?_⟩ <;> dsimp only <;> omega
        · refine ⟨?_, ?_, ?_⟩ <;> dsimp only <;> omega
theorem rm_cb_ec {g f m : Int} {s : Int × Int} (hg : 0 ≤ g) (hs : rf_ok g s) (hx : (f = -1 ∧ m = 0) ∨ (0 ≤ f ∧ 1 ≤ m ∧ m ≤ 1000000)) : ec1 g (rm_cb s f g m) = cw_bt (ec1 g s) (ec (f, m)) := by
  obtain ⟨s1, s2⟩ := s
  unfold rf_ok at hs
  dsimp only at hs
  unfold rm_cb ec1 ec cw_bt
  dsimp only
  rcases hx with x | x
  · rw [if_pos (Or.inl (by omega)), if_pos (show f < 0 by omega)]
    dsimp only
    split <;> split <;> omega
  · rw [if_neg (show ¬ f < 0 by omega)]
    rcases hs with y | y
    · rw [if_neg (show ¬ (f < 0 ∨ f + g < s1) by omega)]
      dsimp only
      rw [if_pos (show s1 < 0 by omega), if_pos rfl, if_neg (show ¬ f + g < 0 by omega), if_neg (show ¬ f + g = s1 by omega)]
      omega
    · rw [if_neg (show ¬ s1 < 0 by omega)]
      have d1 : ((s1 - g) * 1048576 + s2) / 1048576 = s1 - g := by omega
      have d2 : ((s1 - g) * 1048576 + s2) % 1048576 = s2 := by omega
      have d3 : (f * 1048576 + m) / 1048576 = f := by omega
      have d4 : (f * 1048576 + m) % 1048576 = m := by omega
      rw [if_neg (show ¬ (s1 - g) * 1048576 + s2 = 0 by omega), if_neg (show ¬ f * 1048576 + m = 0 by omega), d1, d2, d3, d4]
      by_cases q : f + g < s1
      · rw [if_pos (Or.inr q)]
        dsimp only
        rw [if_neg (show ¬ s1 < 0 by omega), if_neg (show ¬ s1 - g = f by omega)]
        omega
      · rw [if_neg (show ¬ (f < 0 ∨ f + g < s1) by omega)]
        dsimp only
        rw [if_neg (show ¬ f + g < 0 by omega)]
        by_cases e : f + g = s1
        · rw [if_pos e, if_pos (show s1 - g = f by omega)]
          omega
        · rw [if_neg e, if_neg (show ¬ s1 - g = f by omega)]
          omega
theorem rf_F_ok {A R : Nat} {n : Int} {g : Int → Int → Int} {pn : Int → Int} (hg : ∀ p r, 0 ≤ g p r) : ∀ (l : Nat) (r c : Int), rf_ok (g (n - 1 - l) r) (rf_F A R n g pn l r c)
  | 0, r, c => by
    rw [rf_F]
    right
    rw [show n - 1 - ((0 : Nat) : Int) = n - 1 by omega]
    refine ⟨Int.le_refl _, ?_, ?_⟩ <;> dsimp only <;> omega
  | l + 1, r, c => by
    rw [rf_F, show n - 1 - ((l + 1 : Nat) : Int) = n - 2 - l by omega]
    have st : ∀ e s, rf_ok (g (n - 2 - l) r) s → rf_ok (g (n - 2 - l) r) (rf_s A R pn (rf_F A R n g pn l) (g (n - 2 - l) r) (n - 2 - l) r c e s) := by
      intro e s h
      unfold rf_s
      split
      · refine rm_cb_ok (hg _ _) h ?_
        have i := rf_F_ok (A := A) (R := R) (n := n) (pn := pn) hg l (r + e) (rm_nc (cw_N A) c e)
        have g0 := hg (n - 1 - l) (r + e)
        rcases i with i | i
        · exact Or.inl i
        · exact Or.inr ⟨by omega, i.2⟩
      · exact h
    exact st 1 _ (st 0 _ (st (-1) _ rf_ok0))
/-- what a change adds: 0 where it may not be -/
def rf_y (A R : Nat) (pn : Int → Int) (F : Int → Int → Int × Int) (p r c e : Int) : Int := if rm_go (A : Int) (R : Int) (pn (p + 1)) p r c (r + e) then ec (F (r + e) (rm_nc (cw_N A) c e)) else 0
theorem cw_bt_0 (x : Int) : cw_bt x 0 = x := by
  unfold cw_bt
  split
  · omega
  · rw [if_pos rfl]; omega
theorem cw_0_bt (x : Int) : cw_bt 0 x = x := by
  unfold cw_bt
  rw [if_pos rfl]; omega
theorem rf_F_s {A R : Nat} {n : Int} {g : Int → Int → Int} {pn : Int → Int} (hg : ∀ p r, 0 ≤ g p r) (l : Nat) (r c : Int) : ec1 (g (n - 2 - l) r) (rf_F A R n g pn (l + 1) r c) = cw_bt (cw_bt (rf_y A R pn (rf_F A R n g pn l) (n - 2 - l) r c (-1)) (rf_y A R pn (rf_F A R n g pn l) (n - 2 - l) r c 0)) (rf_y A R pn (rf_F A R n g pn l) (n - 2 - l) r c 1) := by
  have st : ∀ e s, rf_ok (g (n - 2 - l) r) s → rf_ok (g (n - 2 - l) r) (rf_s A R pn (rf_F A R n g pn l) (g (n - 2 - l) r) (n - 2 - l) r c e s) ∧ ec1 (g (n - 2 - l) r) (rf_s A R pn (rf_F A R n g pn l) (g (n - 2 - l) r) (n - 2 - l) r c e s) = cw_bt (ec1 (g (n - 2 - l) r) s) (rf_y A R pn (rf_F A R n g pn l) (n - 2 - l) r c e) := by
    intro e s h
    unfold rf_s rf_y
    split
    · have i := rf_F_ok (A := A) (R := R) (n := n) (pn := pn) hg l (r + e) (rm_nc (cw_N A) c e)
      have g0 := hg (n - 1 - l) (r + e)
      have j : ((rf_F A R n g pn l (r + e) (rm_nc (cw_N A) c e)).1 = -1 ∧ (rf_F A R n g pn l (r + e) (rm_nc (cw_N A) c e)).2 = 0) ∨ (0 ≤ (rf_F A R n g pn l (r + e) (rm_nc (cw_N A) c e)).1 ∧ 1 ≤ (rf_F A R n g pn l (r + e) (rm_nc (cw_N A) c e)).2 ∧ (rf_F A R n g pn l (r + e) (rm_nc (cw_N A) c e)).2 ≤ 1000000) := by
        rcases i with i | i
        · exact Or.inl i
        · exact Or.inr ⟨by omega, i.2⟩
      exact ⟨rm_cb_ok (hg _ _) h j, rm_cb_ec (hg _ _) h j⟩
    · exact ⟨h, (cw_bt_0 _).symm⟩
  have a := st (-1) (-1, 0) rf_ok0
  have b := st 0 _ a.1
  have d := st 1 _ b.1
  rw [rf_F, d.2, b.2, a.2]
  have z : ec1 (g (n - 2 - l) r) (-1, 0) = 0 := by unfold ec1; rw [if_pos (by decide)]
  rw [z, cw_0_bt]
/-- codes: the shape of the window that follows, the radius a turn ahead -/
def cw_cq (A : Nat) : Bool := (List.range (3 ^ (A - 1))).all (fun c => decide (rm_old (A - 1) 0 (c : Int) = - cw_sh A (c : Int) (A - 1)) && (List.range 3).all (fun ch => decide (rm_nc (cw_N A) (c : Int) ((ch : Int) - 1) = cw_ta A (c : Int) + ch) && decide (cw_sh A (c : Int) 1 + cw_sh A (cw_ta A (c : Int) + ch) (A - 1) = cw_sh A (c : Int) (A - 1) + ch - 1) && (List.range (A - 1)).all (fun i => decide (cw_sh A (c : Int) 1 + cw_sh A (cw_ta A (c : Int) + ch) i = cw_sh A (c : Int) (i + 1)))))
theorem cw_cq3 : cw_cq 3 = true := by decide +kernel
theorem cw_cq4 : cw_cq 4 = true := by decide +kernel
theorem cw_cq5 : cw_cq 5 = true := by decide +kernel
theorem cw_cq6 : cw_cq 6 = true := by decide +kernel
theorem cw_cqa {A : Nat} (h : 3 ≤ A ∧ A ≤ 6) : cw_cq A = true := by
  have : A = 3 ∨ A = 4 ∨ A = 5 ∨ A = 6 := by omega
  rcases this with e | e | e | e <;> subst e
  · exact cw_cq3
  · exact cw_cq4
  · exact cw_cq5
  · exact cw_cq6
theorem rm_old_r : ∀ (n : Nat) (r c : Int), rm_old n r c = r + rm_old n 0 c
  | 0, r, c => by rw [rm_old, rm_old]; omega
  | n + 1, r, c => by
    rw [rm_old, rm_old, rm_old_r n (r - (c.tmod 3 - 1)), rm_old_r n (0 - (c.tmod 3 - 1))]
    omega
theorem cw_cqs {A : Nat} (h : 3 ≤ A ∧ A ≤ 6) {c : Int} (hc : 0 ≤ c ∧ c < cw_N A) : (∀ r, rm_old (A - 1) (r + cw_sh A c (A - 1)) c = r) ∧ ∀ ch : Nat, ch < 3 → rm_nc (cw_N A) c ((ch : Int) - 1) = cw_ta A c + ch ∧ cw_sh A c 1 + cw_sh A (cw_ta A c + ch) (A - 1) = cw_sh A c (A - 1) + ch - 1 ∧ ∀ i, i < A - 1 → cw_sh A c 1 + cw_sh A (cw_ta A c + ch) i = cw_sh A c (i + 1) := by
  have k := cw_cqa h
  unfold cw_cq at k
  have e : ((c.toNat : Nat) : Int) = c := by omega
  have a := List.all_eq_true.mp k c.toNat (List.mem_range.mpr (by unfold cw_N at hc; omega))
  rw [e] at a
  rw [Bool.and_eq_true] at a
  refine ⟨fun r => ?_, fun ch hch => ?_⟩
  · rw [rm_old_r, of_decide_eq_true a.1]; omega
  · have b := List.all_eq_true.mp a.2 ch (List.mem_range.mpr hch)
    rw [Bool.and_eq_true, Bool.and_eq_true] at b
    refine ⟨of_decide_eq_true b.1.1, of_decide_eq_true b.1.2, fun i hi => ?_⟩
    exact of_decide_eq_true (List.all_eq_true.mp b.2 i (List.mem_range.mpr hi))
/-- a window of radii that may be: all places within the radii, none below its turn -/
def wv (A R : Nat) (s r c : Int) : Prop := ∀ i : Nat, i < A → (0 ≤ r + cw_sh A c i ∧ r + cw_sh A c i < (R : Int)) ∧ (s + i) / (A : Int) ≤ r + cw_sh A c i
/-- some place of a window is too far out for the turns to come -/
def wh (A R : Nat) (K s r c : Int) : Prop := ∃ i : Nat, i < A ∧ (R : Int) - K + (s + i) / (A : Int) < r + cw_sh A c i
theorem wv_next {A R : Nat} (hA : 3 ≤ A ∧ A ≤ 6) {s r c : Int} (hs : 0 ≤ s) (hc : 0 ≤ c ∧ c < cw_N A) (h : wv A R s r c) {ch : Nat} (hch : ch < 3) (h0 : 0 ≤ r + cw_sh A c (A - 1) + ch - 1 ∧ r + cw_sh A c (A - 1) + ch - 1 < (R : Int)) (h1 : r < r + cw_sh A c (A - 1) + ch - 1) : wv A R (s + 1) (r + cw_sh A c 1) (cw_ta A c + ch) := by
  have k := (cw_cqs hA hc).2 ch hch
  intro i hi
  by_cases q : i < A - 1
  · have e := k.2.2 i q
    have v := h (i + 1) (by omega)
    rw [show s + 1 + (i : Int) = s + ((i + 1 : Nat) : Int) by omega, show r + cw_sh A c 1 + cw_sh A (cw_ta A c + ch) i = r + cw_sh A c (i + 1) by omega]
    exact v
  · have e : i = A - 1 := by omega
    subst e
    have v := (h 0 (by omega)).2
    have z : cw_sh A c 0 = 0 := rfl
    have d : (s + 1 + ((A - 1 : Nat) : Int)) / (A : Int) = s / (A : Int) + 1 := by
      rw [show s + 1 + ((A - 1 : Nat) : Int) = s + 1 * (A : Int) by omega, Int.add_mul_ediv_right _ _ (by omega)]
    rw [show s + ((0 : Nat) : Int) = s by omega, z] at v
    rw [d, show r + cw_sh A c 1 + cw_sh A (cw_ta A c + ch) (A - 1) = r + cw_sh A c (A - 1) + ch - 1 by omega]
    exact ⟨h0, by omega⟩
theorem wh_next {A R : Nat} (hA : 3 ≤ A ∧ A ≤ 6) {K s r c : Int} (hs : 0 ≤ s) (hc : 0 ≤ c ∧ c < cw_N A) (h : wh A R K s r c) {ch : Nat} (hch : ch < 3) (h1 : r < r + cw_sh A c (A - 1) + ch - 1) : wh A R K (s + 1) (r + cw_sh A c 1) (cw_ta A c + ch) := by
  have k := (cw_cqs hA hc).2 ch hch
  obtain ⟨i, hi, v⟩ := h
  by_cases q : i = 0
  · subst q
    refine ⟨A - 1, by omega, ?_⟩
    have z : cw_sh A c 0 = 0 := rfl
    have d : (s + 1 + ((A - 1 : Nat) : Int)) / (A : Int) = s / (A : Int) + 1 := by
      rw [show s + 1 + ((A - 1 : Nat) : Int) = s + 1 * (A : Int) by omega, Int.add_mul_ediv_right _ _ (by omega)]
    rw [show s + ((0 : Nat) : Int) = s by omega, z] at v
    rw [d]
    omega
  · refine ⟨i - 1, by omega, ?_⟩
    have e := k.2.2 (i - 1) (by omega)
    rw [show i - 1 + 1 = i by omega] at e
    rw [show s + 1 + ((i - 1 : Nat) : Int) = s + (i : Int) by omega]
    omega
theorem cw_tab3 {A : Nat} (h : 3 ≤ A ∧ A ≤ 6) {c : Int} (hc : 0 ≤ c ∧ c < cw_N A) {ch : Nat} (hch : ch < 3) : 0 ≤ cw_ta A c + ch ∧ cw_ta A c + ch < cw_N A := by
  have k := (cw_cks h hc).2.2
  omega
/-- the last turn's windows, and those that are too far out: no way goes on -/
theorem dp_inf {A R : Nat} (hA : 3 ≤ A ∧ A ≤ 6) {K : Int} (hK : 1 ≤ K) {g : Int → Int → Int} {pn : Int → Int} (hg : ∀ p r, 0 ≤ g p r) : ∀ (l : Nat) (r c : Int), (l : Int) ≤ K * (A : Int) - (A : Int) → 0 ≤ c ∧ c < cw_N A → wv A R (K * (A : Int) - (A : Int) - l) r c → wh A R K (K * (A : Int) - (A : Int) - l) r c → (rf_F A R (K * (A : Int)) g pn l (r + cw_sh A c (A - 1)) c).1 < 0
  | 0, r, c, _, hc, v, ⟨i, hi, h⟩ => by
    have w := (v i hi).1
    have d : (K * (A : Int) - (A : Int) - ((0 : Nat) : Int) + (i : Int)) / (A : Int) = K - 1 := by
      rw [show K * (A : Int) - (A : Int) - ((0 : Nat) : Int) + (i : Int) = (i : Int) + (K - 1) * (A : Int) by rw [Int.sub_mul]; omega, Int.add_mul_ediv_right _ _ (by omega), Int.ediv_eq_zero_of_lt (by omega) (by omega)]
      omega
    rw [d] at h
    omega
  | l + 1, r, c, hl, hc, v, h => by
    have no : ∀ ch : Nat, ch < 3 → rf_y A R pn (rf_F A R (K * (A : Int)) g pn l) (K * (A : Int) - 2 - l) (r + cw_sh A c (A - 1)) c ((ch : Int) - 1) = 0 := by
      intro ch hch
      unfold rf_y
      split
      · rename_i go
        have k := cw_cqs hA hc
        have kc := k.2 ch hch
        have o := k.1 r
        obtain ⟨g1, g2, g3⟩ := go
        rw [show ((A : Int) - 1).toNat = A - 1 by omega, o] at g3
        have up : r < r + cw_sh A c (A - 1) + ch - 1 := by
          rcases g3 with x | x
          · omega
          · omega
        have hn := wh_next hA (by omega) hc h hch up
        have vn := wv_next hA (by omega) hc v hch (by omega) up
        have ps : K * (A : Int) - (A : Int) - ((l + 1 : Nat) : Int) + 1 = K * (A : Int) - (A : Int) - (l : Int) := by omega
        rw [ps] at hn vn
        have i := dp_inf hA hK (pn := pn) hg l (r + cw_sh A c 1) (cw_ta A c + ch) (by omega) (cw_tab3 hA hc hch) vn hn
        rw [kc.1]
        rw [show r + cw_sh A c 1 + cw_sh A (cw_ta A c + ch) (A - 1) = r + cw_sh A c (A - 1) + ((ch : Int) - 1) by omega] at i
        unfold ec
        rw [if_pos i]
      · rfl
    have s := rf_F_s (A := A) (R := R) (n := K * (A : Int)) (pn := pn) hg l (r + cw_sh A c (A - 1)) c
    have n0 := no 0 (by decide)
    have n1 := no 1 (by decide)
    have n2 := no 2 (by decide)
    rw [show (((0 : Nat) : Int) - 1) = -1 by decide] at n0
    rw [show (((1 : Nat) : Int) - 1) = 0 by decide] at n1
    rw [show (((2 : Nat) : Int) - 1) = 1 by decide] at n2
    rw [n0, n1, n2, cw_0_bt, cw_0_bt] at s
    have ok := rf_F_ok (A := A) (R := R) (n := K * (A : Int)) (pn := pn) hg (l + 1) (r + cw_sh A c (A - 1)) c
    rw [show K * (A : Int) - 1 - ((l + 1 : Nat) : Int) = K * (A : Int) - 2 - l by omega] at ok
    unfold ec1 at s
    rcases ok with x | x
    · omega
    · have g0 := hg (K * (A : Int) - 2 - l) (r + cw_sh A c (A - 1))
      rw [if_neg (by omega)] at s
      omega
