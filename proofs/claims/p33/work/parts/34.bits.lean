/-! ===== bits of whole numbers that aren't negative ===== -/
theorem kb_n (a : Nat) : Int32.ofInt (a : Int) = Int32.ofNat a := (ck_nat (n := a) _ rfl).symm
theorem kb_i {a : Nat} (h : a < 2147483648) : (Int32.ofNat a).toInt = (a : Int) := nI_toInt (by omega)
theorem kb_and0 (a b : Nat) : Int32.ofNat a &&& Int32.ofNat b = Int32.ofNat (a &&& b) := Int32.toBitVec_inj.mp (by rw [Int32.toBitVec_and]; show BitVec.ofNat 32 a &&& BitVec.ofNat 32 b = BitVec.ofNat 32 (a &&& b); rw [BitVec.ofNat_and])
theorem kb_or0 (a b : Nat) : Int32.ofNat a ||| Int32.ofNat b = Int32.ofNat (a ||| b) := Int32.toBitVec_inj.mp (by rw [Int32.toBitVec_or]; show BitVec.ofNat 32 a ||| BitVec.ofNat 32 b = BitVec.ofNat 32 (a ||| b); rw [BitVec.ofNat_or])
theorem kb_xor0 (a b : Nat) : Int32.ofNat a ^^^ Int32.ofNat b = Int32.ofNat (a ^^^ b) := Int32.toBitVec_inj.mp (by rw [Int32.toBitVec_xor]; show BitVec.ofNat 32 a ^^^ BitVec.ofNat 32 b = BitVec.ofNat 32 (a ^^^ b); rw [BitVec.ofNat_xor])
theorem kb_and {a b : Nat} (h : a < 2147483648) : ck_and a b = ((a &&& b : Nat) : Int) := by
  unfold ck_and
  rw [kb_n, kb_n, kb_and0, kb_i (Nat.lt_of_le_of_lt Nat.and_le_left h)]
theorem kb_or {a b : Nat} (ha : a < 2147483648) (hb : b < 2147483648) : ck_or a b = ((a ||| b : Nat) : Int) := by
  unfold ck_or
  rw [kb_n, kb_n, kb_or0, kb_i (Nat.or_lt_two_pow (n := 31) ha hb)]
theorem kb_xor {a b : Nat} (ha : a < 2147483648) (hb : b < 2147483648) : ck_xor a b = ((a ^^^ b : Nat) : Int) := by
  unfold ck_xor
  rw [kb_n, kb_n, kb_xor0, kb_i (Nat.xor_lt_two_pow (n := 31) ha hb)]
theorem kb_sl : ∀ n, n < 32 → ((Int32.ofNat n &&& 31).toBitVec.smod 32).toNat = n := by decide +kernel
theorem kb_shl {a k : Nat} (hk : k < 32) (h : a * 2 ^ k < 2147483648) : ck_shl a k = ((a * 2 ^ k : Nat) : Int) := by
  unfold ck_shl
  rw [kb_n, kb_n]
  have e : Int32.ofNat a <<< (Int32.ofNat k &&& 31) = Int32.ofNat (a * 2 ^ k) := Int32.toBitVec_inj.mp (by
    rw [Int32.toBitVec_shiftLeft, BitVec.shiftLeft_eq', kb_sl k hk]
    show BitVec.ofNat 32 a <<< k = BitVec.ofNat 32 (a * 2 ^ k)
    apply BitVec.eq_of_toNat_eq
    rw [BitVec.toNat_shiftLeft, BitVec.toNat_ofNat, BitVec.toNat_ofNat, Nat.shiftLeft_eq, Nat.mod_mul_mod])
  rw [e, kb_i h]
theorem kb_shr {a k : Nat} (hk : k < 32) (h : a < 2147483648) : ck_shr a k = ((a / 2 ^ k : Nat) : Int) := by
  unfold ck_shr
  rw [kb_n, kb_n]
  have e : Int32.ofNat a >>> (Int32.ofNat k &&& 31) = Int32.ofNat (a / 2 ^ k) := Int32.toBitVec_inj.mp (by
    rw [Int32.toBitVec_shiftRight, BitVec.sshiftRight_eq', kb_sl k hk]
    show (BitVec.ofNat 32 a).sshiftRight k = BitVec.ofNat 32 (a / 2 ^ k)
    have hm : (BitVec.ofNat 32 a).msb = false := by
      rw [BitVec.msb_eq_false_iff_two_mul_lt, BitVec.toNat_ofNat]; omega
    rw [BitVec.sshiftRight_eq_of_msb_false hm]
    apply BitVec.eq_of_toNat_eq
    have l : a / 2 ^ k ≤ a := Nat.div_le_self _ _
    rw [BitVec.toNat_ushiftRight, BitVec.toNat_ofNat, BitVec.toNat_ofNat, Nat.shiftRight_eq_div_pow, Nat.mod_eq_of_lt (by omega), Nat.mod_eq_of_lt (by omega)])
  rw [e, kb_i (Nat.lt_of_le_of_lt (Nat.div_le_self _ _) h)]
theorem kb_nat {x : Int} (h : 0 ≤ x) : ∃ n : Nat, x = n := ⟨x.toNat, by omega⟩
/-- one bit of a set -/
theorem kb_bit {x k : Int} (h0 : 0 ≤ x) (h1 : x < 2147483648) (k0 : 0 ≤ k) (k1 : k < 32) : ck_and (ck_shr x k) 1 = (x / 2 ^ k.toNat) % 2 := by
  obtain ⟨a, rfl⟩ := kb_nat h0
  obtain ⟨b, rfl⟩ := kb_nat k0
  have l : a / 2 ^ b ≤ a := Nat.div_le_self _ _
  rw [kb_shr (by omega) (by omega), show (1 : Int) = ((1 : Nat) : Int) from rfl, kb_and (by omega), Nat.and_one_is_mod]
  simp
theorem kb_bit01 {x k : Int} (h0 : 0 ≤ x) (h1 : x < 2147483648) (k0 : 0 ≤ k) (k1 : k < 32) : 0 ≤ ck_and (ck_shr x k) 1 ∧ ck_and (ck_shr x k) 1 ≤ 1 := by
  rw [kb_bit h0 h1 k0 k1]; omega
theorem kb_shl1 {k : Int} (k0 : 0 ≤ k) (k1 : k ≤ 30) : ck_shl 1 k = 2 ^ k.toNat := by
  obtain ⟨b, rfl⟩ := kb_nat k0
  have : 2 ^ b ≤ 2 ^ 30 := Nat.pow_le_pow_right (by decide) (by omega)
  rw [show (1 : Int) = ((1 : Nat) : Int) from rfl, kb_shl (by omega) (by omega)]
  simp
theorem kb_or9 {x y : Int} (hx : 0 ≤ x ∧ x < 512) (hy : 0 ≤ y ∧ y < 512) : 0 ≤ ck_or x y ∧ ck_or x y < 512 := by
  obtain ⟨a, rfl⟩ := kb_nat hx.1
  obtain ⟨b, rfl⟩ := kb_nat hy.1
  rw [kb_or (by omega) (by omega)]
  have := Nat.or_lt_two_pow (n := 9) (x := a) (y := b) (by omega) (by omega)
  omega
theorem kb_xor9 {x y : Int} (hx : 0 ≤ x ∧ x < 512) (hy : 0 ≤ y ∧ y < 512) : 0 ≤ ck_xor x y ∧ ck_xor x y < 512 := by
  obtain ⟨a, rfl⟩ := kb_nat hx.1
  obtain ⟨b, rfl⟩ := kb_nat hy.1
  rw [kb_xor (by omega) (by omega)]
  have := Nat.xor_lt_two_pow (n := 9) (x := a) (y := b) (by omega) (by omega)
  omega
theorem kb_shl9 {k : Int} (k0 : 0 ≤ k) (k1 : k < 9) : 0 ≤ ck_shl 1 k ∧ ck_shl 1 k < 512 := by
  rw [kb_shl1 k0 (by omega)]
  rcases (by omega : k = 0 ∨ k = 1 ∨ k = 2 ∨ k = 3 ∨ k = 4 ∨ k = 5 ∨ k = 6 ∨ k = 7 ∨ k = 8) with e | e | e | e | e | e | e | e | e <;> subst e <;> decide
