/-! ===== numbers: an int32 and the whole number that it is ===== -/
theorem ch_nmw {X : ch_X} {d : Nat} {y : ch_M} {K : Option Value → ch_W → Prop} {pc : Nat} {L : ch_Lo} {S : List Value} {e : ch_W} (h : ∀ u, u = e → ch_At X d y K pc L S u) : ch_At X d y K pc L S e := h e rfl
theorem ch_nms {X : ch_X} {d : Nat} {y : ch_M} {K : Option Value → ch_W → Prop} {pc : Nat} {L : ch_Lo} {S : List Value} {w : ch_W} {e : Int32} (h : ∀ u, u = e → ch_At X d y K pc L (.int u :: S) w) : ch_At X d y K pc L (.int e :: S) w := h e rfl
theorem ch_nml {X : ch_X} {d : Nat} {y : ch_M} {K : Option Value → ch_W → Prop} {pc : Nat} {L : ch_Lo} {S : List Value} {w : ch_W} {e : Int64} (h : ∀ u, u = e → ch_At X d y K pc L (.long u :: S) w) : ch_At X d y K pc L (.long e :: S) w := h e rfl
theorem ch_rng (x : Int32) : -2147483648 ≤ x.toInt ∧ x.toInt ≤ 2147483647 := ⟨by have := Int32.le_toInt x; simpa using this, by have := Int32.toInt_lt x; omega⟩
theorem ch_bm {z : Int} (h : -2147483648 ≤ z ∧ z ≤ 2147483647) : z.bmod (2 ^ 32) = z := by
  rw [Int.bmod_eq_of_le] <;> omega
theorem ch_zA {x y : Int32} {a b : Int} (hx : x.toInt = a) (hy : y.toInt = b) (h : -2147483648 ≤ a + b ∧ a + b ≤ 2147483647) : (x + y).toInt = a + b := by
  rw [Int32.toInt_add, hx, hy]; exact ch_bm h
theorem ch_zS {x y : Int32} {a b : Int} (hx : x.toInt = a) (hy : y.toInt = b) (h : -2147483648 ≤ a - b ∧ a - b ≤ 2147483647) : (x - y).toInt = a - b := by
  rw [Int32.toInt_sub, hx, hy]; exact ch_bm h
theorem ch_zM {x y : Int32} {a b : Int} (hx : x.toInt = a) (hy : y.toInt = b) (h : -2147483648 ≤ a * b ∧ a * b ≤ 2147483647) : (x * y).toInt = a * b := by
  rw [Int32.toInt_mul, hx, hy]; exact ch_bm h
theorem ch_zN {x : Int32} {a : Int} (hx : x.toInt = a) (h : -2147483647 ≤ a) : (-x).toInt = -a := by
  have h1 := ch_rng x
  rw [Int32.toInt_neg, hx]; exact ch_bm ⟨by omega, by omega⟩
theorem ch_nA {x y : Int32} {a b : Nat} (hx : x.toInt = (a : Int)) (hy : y.toInt = (b : Int)) (h : a + b ≤ 2147483647) : (x + y).toInt = ((a + b : Nat) : Int) := by
  rw [ch_zA hx hy (by omega)]; omega
theorem ch_nM {x y : Int32} {a b : Nat} (hx : x.toInt = (a : Int)) (hy : y.toInt = (b : Int)) (h : a * b ≤ 2147483647) : (x * y).toInt = ((a * b : Nat) : Int) := by
  have e : (a : Int) * b = ((a * b : Nat) : Int) := by simp
  rw [ch_zM hx hy (by rw [e]; omega)]; exact e
theorem ch_nS {x y : Int32} {a b : Nat} (hx : x.toInt = (a : Int)) (hy : y.toInt = (b : Int)) (h : b ≤ a) : (x - y).toInt = ((a - b : Nat) : Int) := by
  have h1 := ch_rng x
  rw [ch_zS hx hy (by omega)]; omega
theorem ch_inj {x y : Int32} (h : x.toInt = y.toInt) : x = y := Int32.toInt_inj.mp h
theorem ch_toN {x : Int32} (h : 0 ≤ x.toInt) : ∃ n : Nat, x.toInt = (n : Int) := ⟨x.toInt.toNat, by omega⟩
theorem ch_lt {x y : Int32} {a b : Int} (hx : x.toInt = a) (hy : y.toInt = b) : x < y ↔ a < b := by rw [Int32.lt_iff_toInt_lt, hx, hy]
theorem ch_le {x y : Int32} {a b : Int} (hx : x.toInt = a) (hy : y.toInt = b) : x ≤ y ↔ a ≤ b := by rw [Int32.le_iff_toInt_le, hx, hy]
theorem ch_eq {x y : Int32} {a b : Int} (hx : x.toInt = a) (hy : y.toInt = b) : x = y ↔ a = b := by rw [← Int32.toInt_inj, hx, hy]
