/-! ===== how many bits, by the class's library ===== -/
def bc1 (a : Int) : Int := a - ck_and (ck_ushr a 1) 1431655765
def bc2 (a : Int) : Int := ck_and a 858993459 + ck_and (ck_ushr a 2) 858993459
def bc3 (a : Int) : Int := ck_and (a + ck_ushr a 4) 252645135
def bc4 (a : Int) : Int := a + ck_ushr a 8
def bc5 (a : Int) : Int := bc4 a + ck_ushr (bc4 a) 16
def bcs (n : Nat) : Bool := decide (0 ≤ bc1 n ∧ bc1 n ≤ 1000000) && decide (0 ≤ bc2 (bc1 n) ∧ bc2 (bc1 n) ≤ 1000000) && decide (0 ≤ bc4 (bc3 (bc2 (bc1 n))) ∧ bc4 (bc3 (bc2 (bc1 n))) ≤ 1000000) && decide (0 ≤ bc5 (bc3 (bc2 (bc1 n))) ∧ bc5 (bc3 (bc2 (bc1 n))) ≤ 1000000) && decide (ck_and (bc5 (bc3 (bc2 (bc1 n)))) 63 = ck_on 9 n)
theorem bcs_all : (List.range 512).all bcs = true := by decide +kernel
