/-! ===== the reference's state: what its row of whole numbers may hold ===== -/
def rm_hi (A R : Nat) (j : Int) : Int :=
  if j < 10 then (if j = 0 then 4 else if j = 1 then 20 else if j = 2 then 30 else if j = 3 then 60 else if j = 4 then 12 else if j = 5 then 12 else if j = 6 then 16 else if j = 7 then 99 else 3)
  else if j < 20 then 4
  else if j < 900 then 9
  else if j < 960 then (if j % 3 = 0 then 5 else if j % 3 = 1 then 4 * (A : Int) - 1 else (R : Int) - 1)
  else if j < 1010 then (R : Int) - 1
  else if j < 1250 then (if j % 4 = 2 then 5 else if j % 4 = 3 then 4 * (A : Int) - 1 else if j % 4 = 0 then 1 else 3)
  else if j < 1270 then 15
  else if j < 1294 then (if j % 2 = 0 then 511 else 99)
  else if j < 1300 then 0
  else if j < 1348 then (if j % 4 = 3 then 99 else 11)
  else if j < 1360 then 0
  else if j < 1408 then (if j % 3 = 1 then 50 else if j % 3 = 2 then 999 else 3)
  else 50
def rm_lo (j : Int) : Int := if 8 ≤ j ∧ j < 16 then 1 else if 1300 ≤ j ∧ j < 1348 ∧ (j % 4 = 1 ∨ j % 4 = 2) then -1 else 0
def rm_A (A R : Nat) (f : Int → Int) : Prop := (∀ j, 0 ≤ j → j < 1430 → rm_lo j ≤ f j ∧ f j ≤ rm_hi A R j) ∧ (∀ k, 0 ≤ k → k < f 4 → 1 ≤ f (1271 + 2 * k)) ∧ (∀ k, 0 ≤ k → k < f 5 → 1 ≤ f (1303 + 4 * k))
theorem rm_c0 {A R : Nat} {f : Int → Int} (h : rm_A A R f) : (0 ≤ f 0 ∧ f 0 ≤ 4) ∧ (0 ≤ f 1 ∧ f 1 ≤ 20) ∧ (0 ≤ f 2 ∧ f 2 ≤ 30) ∧ (0 ≤ f 3 ∧ f 3 ≤ 60) ∧ (0 ≤ f 4 ∧ f 4 ≤ 12) ∧ (0 ≤ f 5 ∧ f 5 ≤ 12) ∧ (0 ≤ f 6 ∧ f 6 ≤ 16) ∧ (0 ≤ f 7 ∧ f 7 ≤ 99) ∧ (1 ≤ f 8 ∧ f 8 ≤ 3) ∧ (1 ≤ f 9 ∧ f 9 ≤ 3) :=
  ⟨h.1 0 (by decide) (by decide), h.1 1 (by decide) (by decide), h.1 2 (by decide) (by decide), h.1 3 (by decide) (by decide), h.1 4 (by decide) (by decide), h.1 5 (by decide) (by decide), h.1 6 (by decide) (by decide), h.1 7 (by decide) (by decide), h.1 8 (by decide) (by decide), h.1 9 (by decide) (by decide)⟩
theorem rh_turn {A R : Nat} {z : Int} (h0 : 0 ≤ z) (h1 : z ≤ 5) : rm_lo (10 + z) = 1 ∧ rm_hi A R (10 + z) = 4 := by
  refine ⟨?_, ?_⟩
  · unfold rm_lo; rw [if_pos (by omega)]
  · unfold rm_hi; rw [if_neg (by omega), if_pos (by omega)]
theorem rm_turn {A R : Nat} {f : Int → Int} (h : rm_A A R f) {z : Int} (h0 : 0 ≤ z) (h1 : z ≤ 5) : 1 ≤ f (10 + z) ∧ f (10 + z) ≤ 4 := by
  have q := h.1 (10 + z) (by omega) (by omega)
  have e := rh_turn (A := A) (R := R) h0 h1
  rw [e.1, e.2] at q; exact q
theorem rh_grey {A R : Nat} {j : Int} (h0 : 20 ≤ j) (h1 : j < 900) : rm_lo (j) = 0 ∧ rm_hi A R (j) = 9 := by
  refine ⟨?_, ?_⟩
  · unfold rm_lo; rw [if_neg (by omega), if_neg (by omega)]
  · unfold rm_hi; rw [if_neg (by omega), if_neg (by omega), if_pos (by omega)]
theorem rm_grey {A R : Nat} {f : Int → Int} (h : rm_A A R f) {j : Int} (h0 : 20 ≤ j) (h1 : j < 900) : 0 ≤ f (j) ∧ f (j) ≤ 9 := by
  have q := h.1 (j) (by omega) (by omega)
  have e := rh_grey (A := A) (R := R) h0 h1
  rw [e.1, e.2] at q; exact q
theorem rh_pin0 {A R : Nat} {k : Int} (h0 : 0 ≤ k) (h1 : k < 20) : rm_lo (900 + 3 * k) = 0 ∧ rm_hi A R (900 + 3 * k) = 5 := by
  refine ⟨?_, ?_⟩
  · unfold rm_lo; rw [if_neg (by omega), if_neg (by omega)]
  · unfold rm_hi; rw [if_neg (by omega), if_neg (by omega), if_neg (by omega), if_pos (by omega), if_pos (by omega)]
theorem rm_pin0 {A R : Nat} {f : Int → Int} (h : rm_A A R f) {k : Int} (h0 : 0 ≤ k) (h1 : k < 20) : 0 ≤ f (900 + 3 * k) ∧ f (900 + 3 * k) ≤ 5 := by
  have q := h.1 (900 + 3 * k) (by omega) (by omega)
  have e := rh_pin0 (A := A) (R := R) h0 h1
  rw [e.1, e.2] at q; exact q
theorem rh_pin1 {A R : Nat} {k : Int} (h0 : 0 ≤ k) (h1 : k < 20) : rm_lo (900 + 3 * k + 1) = 0 ∧ rm_hi A R (900 + 3 * k + 1) = 4 * (A : Int) - 1 := by
  refine ⟨?_, ?_⟩
  · unfold rm_lo; rw [if_neg (by omega), if_neg (by omega)]
  · unfold rm_hi; rw [if_neg (by omega), if_neg (by omega), if_neg (by omega), if_pos (by omega), if_neg (by omega), if_pos (by omega)]
theorem rm_pin1 {A R : Nat} {f : Int → Int} (h : rm_A A R f) {k : Int} (h0 : 0 ≤ k) (h1 : k < 20) : 0 ≤ f (900 + 3 * k + 1) ∧ f (900 + 3 * k + 1) ≤ 4 * (A : Int) - 1 := by
  have q := h.1 (900 + 3 * k + 1) (by omega) (by omega)
  have e := rh_pin1 (A := A) (R := R) h0 h1
  rw [e.1, e.2] at q; exact q
theorem rh_pin2 {A R : Nat} {k : Int} (h0 : 0 ≤ k) (h1 : k < 20) : rm_lo (900 + 3 * k + 2) = 0 ∧ rm_hi A R (900 + 3 * k + 2) = (R : Int) - 1 := by
  refine ⟨?_, ?_⟩
  · unfold rm_lo; rw [if_neg (by omega), if_neg (by omega)]
  · unfold rm_hi; rw [if_neg (by omega), if_neg (by omega), if_neg (by omega), if_pos (by omega), if_neg (by omega), if_neg (by omega)]
theorem rm_pin2 {A R : Nat} {f : Int → Int} (h : rm_A A R f) {k : Int} (h0 : 0 ≤ k) (h1 : k < 20) : 0 ≤ f (900 + 3 * k + 2) ∧ f (900 + 3 * k + 2) ≤ (R : Int) - 1 := by
  have q := h.1 (900 + 3 * k + 2) (by omega) (by omega)
  have e := rh_pin2 (A := A) (R := R) h0 h1
  rw [e.1, e.2] at q; exact q
theorem rh_step {A R : Nat} {t : Int} (h0 : 0 ≤ t) (h1 : t < 30) : rm_lo (970 + t) = 0 ∧ rm_hi A R (970 + t) = (R : Int) - 1 := by
  refine ⟨?_, ?_⟩
  · unfold rm_lo; rw [if_neg (by omega), if_neg (by omega)]
  · unfold rm_hi; rw [if_neg (by omega), if_neg (by omega), if_neg (by omega), if_neg (by omega), if_pos (by omega)]
theorem rm_step {A R : Nat} {f : Int → Int} (h : rm_A A R f) {t : Int} (h0 : 0 ≤ t) (h1 : t < 30) : 0 ≤ f (970 + t) ∧ f (970 + t) ≤ (R : Int) - 1 := by
  have q := h.1 (970 + t) (by omega) (by omega)
  have e := rh_step (A := A) (R := R) h0 h1
  rw [e.1, e.2] at q; exact q
theorem rh_bit0 {A R : Nat} {k : Int} (h0 : 0 ≤ k) (h1 : k < 60) : rm_lo (1010 + 4 * k) = 0 ∧ rm_hi A R (1010 + 4 * k) = 5 := by
  refine ⟨?_, ?_⟩
  · unfold rm_lo; rw [if_neg (by omega), if_neg (by omega)]
  · unfold rm_hi; rw [if_neg (by omega), if_neg (by omega), if_neg (by omega), if_neg (by omega), if_neg (by omega), if_pos (by omega), if_pos (by omega)]
theorem rm_bit0 {A R : Nat} {f : Int → Int} (h : rm_A A R f) {k : Int} (h0 : 0 ≤ k) (h1 : k < 60) : 0 ≤ f (1010 + 4 * k) ∧ f (1010 + 4 * k) ≤ 5 := by
  have q := h.1 (1010 + 4 * k) (by omega) (by omega)
  have e := rh_bit0 (A := A) (R := R) h0 h1
  rw [e.1, e.2] at q; exact q
theorem rh_bit1 {A R : Nat} {k : Int} (h0 : 0 ≤ k) (h1 : k < 60) : rm_lo (1010 + 4 * k + 1) = 0 ∧ rm_hi A R (1010 + 4 * k + 1) = 4 * (A : Int) - 1 := by
  refine ⟨?_, ?_⟩
  · unfold rm_lo; rw [if_neg (by omega), if_neg (by omega)]
  · unfold rm_hi; rw [if_neg (by omega), if_neg (by omega), if_neg (by omega), if_neg (by omega), if_neg (by omega), if_pos (by omega), if_neg (by omega), if_pos (by omega)]
theorem rm_bit1 {A R : Nat} {f : Int → Int} (h : rm_A A R f) {k : Int} (h0 : 0 ≤ k) (h1 : k < 60) : 0 ≤ f (1010 + 4 * k + 1) ∧ f (1010 + 4 * k + 1) ≤ 4 * (A : Int) - 1 := by
  have q := h.1 (1010 + 4 * k + 1) (by omega) (by omega)
  have e := rh_bit1 (A := A) (R := R) h0 h1
  rw [e.1, e.2] at q; exact q
theorem rh_bit2 {A R : Nat} {k : Int} (h0 : 0 ≤ k) (h1 : k < 60) : rm_lo (1010 + 4 * k + 2) = 0 ∧ rm_hi A R (1010 + 4 * k + 2) = 1 := by
  refine ⟨?_, ?_⟩
  · unfold rm_lo; rw [if_neg (by omega), if_neg (by omega)]
  · unfold rm_hi; rw [if_neg (by omega), if_neg (by omega), if_neg (by omega), if_neg (by omega), if_neg (by omega), if_pos (by omega), if_neg (by omega), if_neg (by omega), if_pos (by omega)]
theorem rm_bit2 {A R : Nat} {f : Int → Int} (h : rm_A A R f) {k : Int} (h0 : 0 ≤ k) (h1 : k < 60) : 0 ≤ f (1010 + 4 * k + 2) ∧ f (1010 + 4 * k + 2) ≤ 1 := by
  have q := h.1 (1010 + 4 * k + 2) (by omega) (by omega)
  have e := rh_bit2 (A := A) (R := R) h0 h1
  rw [e.1, e.2] at q; exact q
theorem rh_bit3 {A R : Nat} {k : Int} (h0 : 0 ≤ k) (h1 : k < 60) : rm_lo (1010 + 4 * k + 3) = 0 ∧ rm_hi A R (1010 + 4 * k + 3) = 3 := by
  refine ⟨?_, ?_⟩
  · unfold rm_lo; rw [if_neg (by omega), if_neg (by omega)]
  · unfold rm_hi; rw [if_neg (by omega), if_neg (by omega), if_neg (by omega), if_neg (by omega), if_neg (by omega), if_pos (by omega), if_neg (by omega), if_neg (by omega), if_neg (by omega)]
theorem rm_bit3 {A R : Nat} {f : Int → Int} (h : rm_A A R f) {k : Int} (h0 : 0 ≤ k) (h1 : k < 60) : 0 ≤ f (1010 + 4 * k + 3) ∧ f (1010 + 4 * k + 3) ≤ 3 := by
  have q := h.1 (1010 + 4 * k + 3) (by omega) (by omega)
  have e := rh_bit3 (A := A) (R := R) h0 h1
  rw [e.1, e.2] at q; exact q
theorem rh_learnt {A R : Nat} {r : Int} (h0 : 0 ≤ r) (h1 : r < 4) : rm_lo (1260 + r) = 0 ∧ rm_hi A R (1260 + r) = 15 := by
  refine ⟨?_, ?_⟩
  · unfold rm_lo; rw [if_neg (by omega), if_neg (by omega)]
  · unfold rm_hi; rw [if_neg (by omega), if_neg (by omega), if_neg (by omega), if_neg (by omega), if_neg (by omega), if_neg (by omega), if_pos (by omega)]
theorem rm_learnt {A R : Nat} {f : Int → Int} (h : rm_A A R f) {r : Int} (h0 : 0 ≤ r) (h1 : r < 4) : 0 ≤ f (1260 + r) ∧ f (1260 + r) ≤ 15 := by
  have q := h.1 (1260 + r) (by omega) (by omega)
  have e := rh_learnt (A := A) (R := R) h0 h1
  rw [e.1, e.2] at q; exact q
theorem rh_let0 {A R : Nat} {k : Int} (h0 : 0 ≤ k) (h1 : k < 12) : rm_lo (1270 + 2 * k) = 0 ∧ rm_hi A R (1270 + 2 * k) = 511 := by
  refine ⟨?_, ?_⟩
  · unfold rm_lo; rw [if_neg (by omega), if_neg (by omega)]
  · unfold rm_hi; rw [if_neg (by omega), if_neg (by omega), if_neg (by omega), if_neg (by omega), if_neg (by omega), if_neg (by omega), if_neg (by omega), if_pos (by omega), if_pos (by omega)]
theorem rm_let0 {A R : Nat} {f : Int → Int} (h : rm_A A R f) {k : Int} (h0 : 0 ≤ k) (h1 : k < 12) : 0 ≤ f (1270 + 2 * k) ∧ f (1270 + 2 * k) ≤ 511 := by
  have q := h.1 (1270 + 2 * k) (by omega) (by omega)
  have e := rh_let0 (A := A) (R := R) h0 h1
  rw [e.1, e.2] at q; exact q
theorem rh_let1 {A R : Nat} {k : Int} (h0 : 0 ≤ k) (h1 : k < 12) : rm_lo (1270 + 2 * k + 1) = 0 ∧ rm_hi A R (1270 + 2 * k + 1) = 99 := by
  refine ⟨?_, ?_⟩
  · unfold rm_lo; rw [if_neg (by omega), if_neg (by omega)]
  · unfold rm_hi; rw [if_neg (by omega), if_neg (by omega), if_neg (by omega), if_neg (by omega), if_neg (by omega), if_neg (by omega), if_neg (by omega), if_pos (by omega), if_neg (by omega)]
theorem rm_let1 {A R : Nat} {f : Int → Int} (h : rm_A A R f) {k : Int} (h0 : 0 ≤ k) (h1 : k < 12) : 0 ≤ f (1270 + 2 * k + 1) ∧ f (1270 + 2 * k + 1) ≤ 99 := by
  have q := h.1 (1270 + 2 * k + 1) (by omega) (by omega)
  have e := rh_let1 (A := A) (R := R) h0 h1
  rw [e.1, e.2] at q; exact q
theorem rh_word0 {A R : Nat} {k : Int} (h0 : 0 ≤ k) (h1 : k < 12) : rm_lo (1300 + 4 * k) = 0 ∧ rm_hi A R (1300 + 4 * k) = 11 := by
  refine ⟨?_, ?_⟩
  · unfold rm_lo; rw [if_neg (by omega), if_neg (by omega)]
  · unfold rm_hi; rw [if_neg (by omega), if_neg (by omega), if_neg (by omega), if_neg (by omega), if_neg (by omega), if_neg (by omega), if_neg (by omega), if_neg (by omega), if_neg (by omega), if_pos (by omega), if_neg (by omega)]
theorem rm_word0 {A R : Nat} {f : Int → Int} (h : rm_A A R f) {k : Int} (h0 : 0 ≤ k) (h1 : k < 12) : 0 ≤ f (1300 + 4 * k) ∧ f (1300 + 4 * k) ≤ 11 := by
  have q := h.1 (1300 + 4 * k) (by omega) (by omega)
  have e := rh_word0 (A := A) (R := R) h0 h1
  rw [e.1, e.2] at q; exact q
theorem rh_word1 {A R : Nat} {k : Int} (h0 : 0 ≤ k) (h1 : k < 12) : rm_lo (1300 + 4 * k + 1) = -1 ∧ rm_hi A R (1300 + 4 * k + 1) = 11 := by
  refine ⟨?_, ?_⟩
  · unfold rm_lo; rw [if_neg (by omega), if_pos (by omega)]
  · unfold rm_hi; rw [if_neg (by omega), if_neg (by omega), if_neg (by omega), if_neg (by omega), if_neg (by omega), if_neg (by omega), if_neg (by omega), if_neg (by omega), if_neg (by omega), if_pos (by omega), if_neg (by omega)]
theorem rm_word1 {A R : Nat} {f : Int → Int} (h : rm_A A R f) {k : Int} (h0 : 0 ≤ k) (h1 : k < 12) : -1 ≤ f (1300 + 4 * k + 1) ∧ f (1300 + 4 * k + 1) ≤ 11 := by
  have q := h.1 (1300 + 4 * k + 1) (by omega) (by omega)
  have e := rh_word1 (A := A) (R := R) h0 h1
  rw [e.1, e.2] at q; exact q
theorem rh_word2 {A R : Nat} {k : Int} (h0 : 0 ≤ k) (h1 : k < 12) : rm_lo (1300 + 4 * k + 2) = -1 ∧ rm_hi A R (1300 + 4 * k + 2) = 11 := by
  refine ⟨?_, ?_⟩
  · unfold rm_lo; rw [if_neg (by omega), if_pos (by omega)]
  · unfold rm_hi; rw [if_neg (by omega), if_neg (by omega), if_neg (by omega), if_neg (by omega), if_neg (by omega), if_neg (by omega), if_neg (by omega), if_neg (by omega), if_neg (by omega), if_pos (by omega), if_neg (by omega)]
theorem rm_word2 {A R : Nat} {f : Int → Int} (h : rm_A A R f) {k : Int} (h0 : 0 ≤ k) (h1 : k < 12) : -1 ≤ f (1300 + 4 * k + 2) ∧ f (1300 + 4 * k + 2) ≤ 11 := by
  have q := h.1 (1300 + 4 * k + 2) (by omega) (by omega)
  have e := rh_word2 (A := A) (R := R) h0 h1
  rw [e.1, e.2] at q; exact q
theorem rh_word3 {A R : Nat} {k : Int} (h0 : 0 ≤ k) (h1 : k < 12) : rm_lo (1300 + 4 * k + 3) = 0 ∧ rm_hi A R (1300 + 4 * k + 3) = 99 := by
  refine ⟨?_, ?_⟩
  · unfold rm_lo; rw [if_neg (by omega), if_neg (by omega)]
  · unfold rm_hi; rw [if_neg (by omega), if_neg (by omega), if_neg (by omega), if_neg (by omega), if_neg (by omega), if_neg (by omega), if_neg (by omega), if_neg (by omega), if_neg (by omega), if_pos (by omega), if_pos (by omega)]
theorem rm_word3 {A R : Nat} {f : Int → Int} (h : rm_A A R f) {k : Int} (h0 : 0 ≤ k) (h1 : k < 12) : 0 ≤ f (1300 + 4 * k + 3) ∧ f (1300 + 4 * k + 3) ≤ 99 := by
  have q := h.1 (1300 + 4 * k + 3) (by omega) (by omega)
  have e := rh_word3 (A := A) (R := R) h0 h1
  rw [e.1, e.2] at q; exact q
theorem rh_part0 {A R : Nat} {k : Int} (h0 : 0 ≤ k) (h1 : k < 16) : rm_lo (1360 + 3 * k) = 0 ∧ rm_hi A R (1360 + 3 * k) = 50 := by
  refine ⟨?_, ?_⟩
  · unfold rm_lo; rw [if_neg (by omega), if_neg (by omega)]
  · unfold rm_hi; rw [if_neg (by omega), if_neg (by omega), if_neg (by omega), if_neg (by omega), if_neg (by omega), if_neg (by omega), if_neg (by omega), if_neg (by omega), if_neg (by omega), if_neg (by omega), if_neg (by omega), if_pos (by omega), if_pos (by omega)]
theorem rm_part0 {A R : Nat} {f : Int → Int} (h : rm_A A R f) {k : Int} (h0 : 0 ≤ k) (h1 : k < 16) : 0 ≤ f (1360 + 3 * k) ∧ f (1360 + 3 * k) ≤ 50 := by
  have q := h.1 (1360 + 3 * k) (by omega) (by omega)
  have e := rh_part0 (A := A) (R := R) h0 h1
  rw [e.1, e.2] at q; exact q
theorem rh_part1 {A R : Nat} {k : Int} (h0 : 0 ≤ k) (h1 : k < 16) : rm_lo (1360 + 3 * k + 1) = 0 ∧ rm_hi A R (1360 + 3 * k + 1) = 999 := by
  refine ⟨?_, ?_⟩
  · unfold rm_lo; rw [if_neg (by omega), if_neg (by omega)]
  · unfold rm_hi; rw [if_neg (by omega), if_neg (by omega), if_neg (by omega), if_neg (by omega), if_neg (by omega), if_neg (by omega), if_neg (by omega), if_neg (by omega), if_neg (by omega), if_neg (by omega), if_neg (by omega), if_pos (by omega), if_neg (by omega), if_pos (by omega)]
theorem rm_part1 {A R : Nat} {f : Int → Int} (h : rm_A A R f) {k : Int} (h0 : 0 ≤ k) (h1 : k < 16) : 0 ≤ f (1360 + 3 * k + 1) ∧ f (1360 + 3 * k + 1) ≤ 999 := by
  have q := h.1 (1360 + 3 * k + 1) (by omega) (by omega)
  have e := rh_part1 (A := A) (R := R) h0 h1
  rw [e.1, e.2] at q; exact q
theorem rh_part2 {A R : Nat} {k : Int} (h0 : 0 ≤ k) (h1 : k < 16) : rm_lo (1360 + 3 * k + 2) = 0 ∧ rm_hi A R (1360 + 3 * k + 2) = 3 := by
  refine ⟨?_, ?_⟩
  · unfold rm_lo; rw [if_neg (by omega), if_neg (by omega)]
  · unfold rm_hi; rw [if_neg (by omega), if_neg (by omega), if_neg (by omega), if_neg (by omega), if_neg (by omega), if_neg (by omega), if_neg (by omega), if_neg (by omega), if_neg (by omega), if_neg (by omega), if_neg (by omega), if_pos (by omega), if_neg (by omega), if_neg (by omega)]
theorem rm_part2 {A R : Nat} {f : Int → Int} (h : rm_A A R f) {k : Int} (h0 : 0 ≤ k) (h1 : k < 16) : 0 ≤ f (1360 + 3 * k + 2) ∧ f (1360 + 3 * k + 2) ≤ 3 := by
  have q := h.1 (1360 + 3 * k + 2) (by omega) (by omega)
  have e := rh_part2 (A := A) (R := R) h0 h1
  rw [e.1, e.2] at q; exact q
theorem rh_fetch {A R : Nat} {r : Int} (h0 : 0 ≤ r) (h1 : r < 4) : rm_lo (1420 + r) = 0 ∧ rm_hi A R (1420 + r) = 50 := by
  refine ⟨?_, ?_⟩
  · unfold rm_lo; rw [if_neg (by omega), if_neg (by omega)]
  · unfold rm_hi; rw [if_neg (by omega), if_neg (by omega), if_neg (by omega), if_neg (by omega), if_neg (by omega), if_neg (by omega), if_neg (by omega), if_neg (by omega), if_neg (by omega), if_neg (by omega), if_neg (by omega), if_neg (by omega)]
theorem rm_fetch {A R : Nat} {f : Int → Int} (h : rm_A A R f) {r : Int} (h0 : 0 ≤ r) (h1 : r < 4) : 0 ≤ f (1420 + r) ∧ f (1420 + r) ≤ 50 := by
  have q := h.1 (1420 + r) (by omega) (by omega)
  have e := rh_fetch (A := A) (R := R) h0 h1
  rw [e.1, e.2] at q; exact q
/-- one number of the row anew -/
def rm_u (f : Int → Int) (i v : Int) : Int → Int := fun j => if j = i then v else f j
theorem rm_u_eq {f : Int → Int} {i v : Int} : rm_u f i v i = v := by simp [rm_u]
theorem rm_u_ne {f : Int → Int} {i v j : Int} (h : j ≠ i) : rm_u f i v j = f j := by simp [rm_u, h]
theorem ck_up_row {w : ck_W} {k : Nat} {i v : Int} : ck_up w k i v k = rm_u (w k) i v := by funext j; simp [ck_up, rm_u]
theorem rm_up {A R : Nat} {f : Int → Int} (h : rm_A A R f) {i v : Int} (hb : rm_lo i ≤ v ∧ v ≤ rm_hi A R i) (h4 : i ≠ 4) (h5 : i ≠ 5) (hl : ∀ k, 0 ≤ k → k < 12 → i ≠ 1271 + 2 * k) (hw : ∀ k, 0 ≤ k → k < 12 → i ≠ 1303 + 4 * k) : rm_A A R (rm_u f i v) := by
  have c := rm_c0 h
  refine ⟨fun j h0 h1 => ?_, fun k h0 h1 => ?_, fun k h0 h1 => ?_⟩
  · by_cases e : j = i
    · rw [e, rm_u_eq]; exact hb
    · rw [rm_u_ne e]; exact h.1 j h0 h1
  · rw [rm_u_ne (Ne.symm h4)] at h1
    rw [rm_u_ne (Ne.symm (hl k h0 (by omega)))]; exact h.2.1 k h0 h1
  · rw [rm_u_ne (Ne.symm h5)] at h1
    rw [rm_u_ne (Ne.symm (hw k h0 (by omega)))]; exact h.2.2 k h0 h1
/-! texts as steps: what each step takes and leaves on the two piles -/
def tx_eff (o v : Int) (s : Int × Int) : Option (Int × Int) :=
  if o = 0 then (if 0 ≤ v ∧ v ≤ 9999 then some (s.1 + 1, s.2) else none)
  else if o = 1 then (if 0 ≤ v ∧ v ≤ 8 then some (s.1 + 1, s.2) else none)
  else if o = 2 then (if 1 ≤ s.1 then some s else none)
  else if 3 ≤ o ∧ o ≤ 6 then (if 2 ≤ s.1 then some (s.1 - 1, s.2) else none)
  else if 10 ≤ o ∧ o ≤ 15 then (if 2 ≤ s.1 then some (s.1 - 2, s.2 + 1) else none)
  else if o = 20 then (if 1 ≤ s.2 then some s else none)
  else if o = 21 ∨ o = 22 then (if 2 ≤ s.2 then some (s.1, s.2 - 1) else none)
  else none
def tx_st (t : Int → Int) (c s : Int) : Nat → Option (Int × Int)
  | 0 => some (0, 0)
  | q + 1 => (tx_st t c s q).bind (tx_eff (t (c + 2 * (s + q))) (t (c + 2 * (s + q) + 1)))
def tx_cl (t : Int → Int) (x k : Int) : Prop := 0 ≤ t (x + 2 + 3 * k) ∧ t (x + 2 + 3 * k) ≤ t (x + 3 + 3 * k) ∧ t (x + 3 + 3 * k) ≤ 300 ∧ tx_st t (x + 50) (t (x + 2 + 3 * k)) (t (x + 3 + 3 * k) - t (x + 2 + 3 * k)).toNat = some (0, 1)
def tx_ok (t : Int → Int) (x : Int) : Prop := 0 ≤ t x ∧ t x ≤ 10 ∧ ∀ k, 0 ≤ k → k < t x → tx_cl t x k
def rm_T (t : Int → Int) (n : Int) : Prop := ∀ r, 0 ≤ r → r < n → tx_ok t (800 * r)
/-- the reference's state -/
def rm_I (A R : Nat) (w : ck_W) : Prop := w 76 0 = (A : Int) ∧ w 76 1 = (R : Int) ∧ w 76 2 = (3 ^ (A - 1) : Nat) ∧ rm_A A R (w 77) ∧ rm_A A R (w 78) ∧ w 78 0 ≤ w 77 0 ∧ (0 ≤ w 76 16 ∧ 0 ≤ w 76 22) ∧ w 76 16 ≤ 300 ∧ rm_T (w 79) (w 77 0)
/-- what a call of the reference leaves of the class -/
def rm_fr (w w' : ck_W) : Prop := ∀ k, k < 76 ∨ k = 89 → w' k = w k
theorem rm_fr_rf {w : ck_W} : rm_fr w w := fun _ _ => rfl
theorem rm_fr_up {w w' : ck_W} {k : Nat} {i v : Int} (h : rm_fr w w') (hk : 76 ≤ k ∧ k ≠ 89) : rm_fr w (ck_up w' k i v) := fun a ha => by rw [ck_up_ne (by omega)]; exact h a ha
/-- only the row a changed, and it is a good one -/
theorem rm_Ia {A R : Nat} {w : ck_W} {i v : Int} (h : rm_I A R w) (ha : rm_A A R (rm_u (w 77) i v)) (h0 : i ≠ 0) : rm_I A R (ck_up w 77 i v) := by
  obtain ⟨a, b, c, e, f, g, k, l, m⟩ := h
  refine ⟨a, b, c, by rw [ck_up_row]; exact ha, f, ?_, k, l, ?_⟩
  · rw [ck_up_row, rm_u_ne (Ne.symm h0)]; exact g
  · rw [ck_up_row, rm_u_ne (Ne.symm h0)]; exact m
theorem rm_Ib {A R : Nat} {w w' : ck_W} (h : rm_I A R w) (hk : ∀ k, k ≠ 77 → w' k = w k) (ha : rm_A A R (w' 77)) (h0 : w' 77 0 = w 77 0) : rm_I A R w' := by
  obtain ⟨a, b, c, e, f, g, k, l, m⟩ := h
  have e76 := hk 76 (by decide)
  have e78 := hk 78 (by decide)
  have e79 := hk 79 (by decide)
  exact ⟨by rw [e76]; exact a, by rw [e76]; exact b, by rw [e76]; exact c, ha, by rw [e78]; exact f, by rw [e78, h0]; exact g, by rw [e76]; exact k, by rw [e76]; exact l, by rw [e79, h0]; exact m⟩
def rm_Bd (A R : Nat) (f : Int → Int) : Prop := ∀ j, 0 ≤ j → j < 1430 → rm_lo j ≤ f j ∧ f j ≤ rm_hi A R j
theorem rm_bu {A R : Nat} {f : Int → Int} (h : rm_Bd A R f) {i v : Int} (hb : rm_lo i ≤ v ∧ v ≤ rm_hi A R i) : rm_Bd A R (rm_u f i v) := by
  intro j h0 h1
  by_cases e : j = i
  · rw [e, rm_u_eq]; exact hb
  · rw [rm_u_ne e]; exact h j h0 h1
theorem rm_letter {A R : Nat} {f : Int → Int} (h : rm_A A R f) {a b : Int} (h12 : f 4 < 12) (ha : 0 ≤ a ∧ a ≤ 511) (hb : 1 ≤ b ∧ b ≤ 99) : rm_A A R (rm_u (rm_u (rm_u f (1270 + 2 * f 4) a) (1270 + 2 * f 4 + 1) b) 4 (f 4 + 1)) := by
  have c := rm_c0 h
  have b0 := rh_let0 (A := A) (R := R) (k := f 4) (by omega) (by omega)
  have b1 := rh_let1 (A := A) (R := R) (k := f 4) (by omega) (by omega)
  have b2 : rm_lo 4 = 0 ∧ rm_hi A R 4 = 12 := ⟨rfl, rfl⟩
  refine ⟨rm_bu (rm_bu (rm_bu h.1 (by omega)) (by omega)) (by omega), fun k h0 h1 => ?_, fun k h0 h1 => ?_⟩
  · rw [rm_u_eq] at h1
    rw [rm_u_ne (by omega)]
    by_cases e : k = f 4
    · rw [e, show (1271 + 2 * f 4 : Int) = 1270 + 2 * f 4 + 1 by omega, rm_u_eq]; omega
    · rw [rm_u_ne (by omega), rm_u_ne (by omega)]; exact h.2.1 k h0 (by omega)
  · rw [rm_u_ne (by omega), rm_u_ne (by omega), rm_u_ne (by omega)] at h1
    rw [rm_u_ne (by omega), rm_u_ne (by omega), rm_u_ne (by omega)]
    exact h.2.2 k h0 h1
theorem rm_word {A R : Nat} {f : Int → Int} (h : rm_A A R f) {a b e b4 : Int} (h12 : f 5 < 12) (ha : 0 ≤ a ∧ a ≤ 11) (hb : -1 ≤ b ∧ b ≤ 11) (he : -1 ≤ e ∧ e ≤ 11) (h4 : 1 ≤ b4 ∧ b4 ≤ 99) : rm_A A R (rm_u (rm_u (rm_u (rm_u (rm_u f (1300 + 4 * f 5) a) (1300 + 4 * f 5 + 1) b) (1300 + 4 * f 5 + 2) e) (1300 + 4 * f 5 + 3) b4) 5 (f 5 + 1)) := by
  have c := rm_c0 h
  have q0 := rh_word0 (A := A) (R := R) (k := f 5) (by omega) (by omega)
  have q1 := rh_word1 (A := A) (R := R) (k := f 5) (by omega) (by omega)
  have q2 := rh_word2 (A := A) (R := R) (k := f 5) (by omega) (by omega)
  have q3 := rh_word3 (A := A) (R := R) (k := f 5) (by omega) (by omega)
  have q5 : rm_lo 5 = 0 ∧ rm_hi A R 5 = 12 := ⟨rfl, rfl⟩
  refine ⟨rm_bu (rm_bu (rm_bu (rm_bu (rm_bu h.1 (by omega)) (by omega)) (by omega)) (by omega)) (by omega), fun k h0 h1 => ?_, fun k h0 h1 => ?_⟩
  · rw [rm_u_ne (by omega), rm_u_ne (by omega), rm_u_ne (by omega), rm_u_ne (by omega), rm_u_ne (by omega)] at h1
    rw [rm_u_ne (by omega), rm_u_ne (by omega), rm_u_ne (by omega), rm_u_ne (by omega), rm_u_ne (by omega)]
    exact h.2.1 k h0 h1
  · rw [rm_u_eq] at h1
    rw [rm_u_ne (by omega)]
    by_cases e : k = f 5
    · rw [e, show (1303 + 4 * f 5 : Int) = 1300 + 4 * f 5 + 3 by omega, rm_u_eq]; omega
    · rw [rm_u_ne (by omega), rm_u_ne (by omega), rm_u_ne (by omega), rm_u_ne (by omega)]; exact h.2.2 k h0 (by omega)
