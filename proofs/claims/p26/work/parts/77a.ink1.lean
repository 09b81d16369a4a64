/-! ===== a reader's code and the reference's steps: one run ===== -/
theorem cv_rn_s (val cd : Int → Int) : ∀ (n : Nat) (i : Int) (t : (Int × Int) × cv_S), cv_rn val cd (n + 1) i t = cv_st val (cd (i + n)) (cv_rn val cd n i t)
  | 0, i, t => by
    rw [cv_rn, cv_rn, cv_rn, show i + ((0 : Nat) : Int) = i by omega]
  | n + 1, i, t => by
    have e := cv_rn_s val cd n (i + 1) (cv_st val (cd i) t)
    rw [show i + 1 + (n : Int) = i + ((n + 1 : Nat) : Int) by omega] at e
    rw [cv_rn, e]
    rfl
theorem cv_rn_a (val cd : Int → Int) : ∀ (n m : Nat) (i : Int) (t : (Int × Int) × cv_S), cv_rn val cd (n + m) i t = cv_rn val cd m (i + n) (cv_rn val cd n i t)
  | 0, m, i, t => by
    rw [cv_rn, show i + ((0 : Nat) : Int) = i by omega, Nat.zero_add]
  | n + 1, m, i, t => by
    have e := cv_rn_a val cd n m (i + 1) (cv_st val (cd i) t)
    rw [show i + 1 + (n : Int) = i + ((n + 1 : Nat) : Int) by omega] at e
    rw [show n + 1 + m = (n + m) + 1 by omega, cv_rn, e]
    rfl
/-- the class's pile: the reference's truths, and upon them its numbers -/
def rl (n m : Int) (vs ts : Int → Int) (s : cv_S) : Prop := s.1 = m + n ∧ (∀ j, 0 ≤ j → j < m → s.2 j = ts j) ∧ ∀ j, 0 ≤ j → j < n → s.2 (m + j) = vs j
theorem rl_pu {n m v : Int} {vs ts : Int → Int} {s : cv_S} (h : rl n m vs ts s) (h0 : 0 ≤ n ∧ 0 ≤ m) (hb : m + n ≤ 63) : rl (n + 1) m (rm_u vs n v) ts (cv_ps s v) := by
  obtain ⟨h1, h2, h3⟩ := h
  unfold cv_ps
  rw [if_pos (by omega)]
  refine ⟨by dsimp only; omega, fun j j0 j1 => ?_, fun j j0 j1 => ?_⟩
  · dsimp only
    rw [rm_u_ne (by omega)]; exact h2 j j0 j1
  · dsimp only
    by_cases x : j = n
    · rw [x, h1, rm_u_eq, rm_u_eq]
    · rw [rm_u_ne (by omega), rm_u_ne x]; exact h3 j j0 (by omega)
/-- a truth upon truths alone -/
theorem rl_pt {m v : Int} {vs ts : Int → Int} {s : cv_S} (h : rl 0 m vs ts s) (h0 : 0 ≤ m) (hb : m ≤ 63) : rl 0 (m + 1) vs (rm_u ts m v) (cv_ps s v) := by
  obtain ⟨h1, h2, h3⟩ := h
  unfold cv_ps
  rw [if_pos (by omega)]
  refine ⟨by dsimp only; omega, fun j j0 j1 => ?_, fun j j0 j1 => by omega⟩
  dsimp only
  by_cases x : j = m
  · rw [x, show s.1 = m by omega, rm_u_eq, rm_u_eq]
  · rw [rm_u_ne (by omega), rm_u_ne x]; exact h2 j j0 (by omega)
theorem rl_po {n m : Int} {vs ts : Int → Int} {s : cv_S} (h : rl n m vs ts s) (h0 : 1 ≤ n ∧ 0 ≤ m) (hb : m + n ≤ 64) : (cv_pp s).1 = vs (n - 1) ∧ rl (n - 1) m vs ts (cv_pp s).2 := by
  obtain ⟨h1, h2, h3⟩ := h
  unfold cv_pp
  rw [if_pos (by omega)]
  refine ⟨?_, by dsimp only; omega, h2, fun j j0 j1 => h3 j j0 (by omega)⟩
  dsimp only
  rw [show s.1 - 1 = m + (n - 1) by omega]
  exact h3 _ (by omega) (by omega)
theorem rl_pq {m : Int} {vs ts : Int → Int} {s : cv_S} (h : rl 0 m vs ts s) (h0 : 1 ≤ m) (hb : m ≤ 64) : (cv_pp s).1 = ts (m - 1) ∧ rl 0 (m - 1) vs ts (cv_pp s).2 := by
  obtain ⟨h1, h2, h3⟩ := h
  unfold cv_pp
  rw [if_pos (by omega)]
  refine ⟨?_, by dsimp only; omega, fun j j0 j1 => h2 j j0 (by omega), fun j j0 j1 => by omega⟩
  dsimp only
  rw [show s.1 - 1 = m - 1 by omega]
  exact h2 _ (by omega) (by omega)
theorem rl_vs {n m : Int} {vs vs' ts ts' : Int → Int} {s : cv_S} (h : rl n m vs ts s) (e : ∀ j, 0 ≤ j → j < n → vs' j = vs j) (e' : ∀ j, 0 ≤ j → j < m → ts' j = ts j) : rl n m vs' ts' s :=
  ⟨h.1, fun j j0 j1 => (h.2.1 j j0 j1).trans (e' j j0 j1).symm, fun j j0 j1 => (h.2.2 j j0 j1).trans (e j j0 j1).symm⟩
theorem rl_re {o x y : Int} (h : 3 ≤ o ∧ o ≤ 6) : cv_re (o + 12) x y = rm_two o x y := by
  have c : o = 3 ∨ o = 4 ∨ o = 5 ∨ o = 6 := by omega
  unfold cv_re rm_two
  rcases c with e | e | e | e <;> subst e
  · rw [if_pos (by decide), if_pos (by decide)]
  · rw [if_neg (by decide), if_pos (by decide), if_neg (by decide), if_pos (by decide)]
  · rw [if_neg (by decide), if_neg (by decide), if_pos (by decide), if_neg (by decide), if_neg (by decide), if_pos (by decide)]
  · rw [if_neg (show ¬ (6 : Int) + 12 = 15 by decide), if_neg (show ¬ (6 : Int) + 12 = 16 by decide), if_neg (show ¬ (6 : Int) + 12 = 17 by decide), if_neg (show ¬ (6 : Int) = 3 by decide), if_neg (show ¬ (6 : Int) = 4 by decide), if_neg (show ¬ (6 : Int) = 5 by decide)]
    by_cases q : y = 0
    · rw [if_pos q, if_pos q]; decide
    · rw [if_neg q, if_neg q]
theorem rl_as {o x y : Int} (h : 10 ≤ o ∧ o ≤ 15) : (rm_ask o x y → cv_as (o - 1) x y = 1) ∧ (¬ rm_ask o x y → cv_as (o - 1) x y = 0) := by
  have c : o = 10 ∨ o = 11 ∨ o = 12 ∨ o = 13 ∨ o = 14 ∨ o = 15 := by omega
  unfold rm_ask cv_as
  rcases c with e | e | e | e | e | e <;> subst e <;> refine ⟨fun q => ?_, fun q => ?_⟩ <;> (repeat' split) <;> omega
