/-! ===== sums that may run over ===== -/
def ck_wr (e : Int) : Int := (Int32.ofInt e).toInt
theorem ck_wr_of {e : Int} (h : ck_i e) : ck_wr e = e := ck_i32 h
theorem ck_wr_hi {e : Int} (h0 : 2147483648 ≤ e) (h1 : e < 6442450944) : ck_wr e = e - 4294967296 := by
  unfold ck_wr
  rw [Int32.toInt_ofInt, show Int32.size = 4294967296 from rfl]
  unfold Int.bmod
  have : e % ((4294967296 : Nat) : Int) = e - 4294967296 ∨ e % ((4294967296 : Nat) : Int) = e := by omega
  dsimp only
  split <;> omega
theorem ck_wr_lo {e : Int} (h0 : -6442450944 ≤ e) (h1 : e < -2147483648) : ck_wr e = e + 4294967296 := by
  unfold ck_wr
  rw [Int32.toInt_ofInt, show Int32.size = 4294967296 from rfl]
  unfold Int.bmod
  have : e % ((4294967296 : Nat) : Int) = e + 4294967296 ∨ e % ((4294967296 : Nat) : Int) = e + 8589934592 := by omega
  dsimp only
  split <;> omega
theorem ck_wrp {X : ch_X} {d : Nat} {y : ch_M} {K : Option ck_V → ck_W → Prop} {pc : Nat} {L : ck_L} {S : List ck_V} {w : ck_W} {e : Int} (k : ck_At X d y K pc L (.inl (ck_wr e) :: S) w) : ck_At X d y K pc L (.inl e :: S) w := fun hw hl => by
  have h := k hw hl
  simp only [List.map_cons, ck_v, ck_wr, Int32.ofInt_toInt] at h ⊢
  exact h
/-- a sum of an int and a small one: in the row of ints, or far from it -/
theorem ck_wr_add {a b : Int} (ha : ck_i a) (hb : -1000 ≤ b ∧ b ≤ 1000) : (ck_wr (a + b) = a + b) ∨ (2147482000 ≤ a ∧ ck_wr (a + b) = a + b - 4294967296) ∨ (a ≤ -2147482000 ∧ ck_wr (a + b) = a + b + 4294967296) := by
  simp only [ck_i] at ha
  by_cases h1 : a + b ≤ 2147483647
  · by_cases h2 : -2147483648 ≤ a + b
    · exact Or.inl (ck_wr_of ⟨h2, h1⟩)
    · exact Or.inr (Or.inr ⟨by omega, ck_wr_lo (by omega) (by omega)⟩)
  · exact Or.inr (Or.inl ⟨by omega, ck_wr_hi (by omega) (by omega)⟩)
