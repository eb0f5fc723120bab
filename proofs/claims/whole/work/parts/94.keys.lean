/-! SETS OF KEYS, in a long. -/
def kJ (n : Nat) : Int := (BitVec.ofNat 64 n).toInt
theorem jor_k (a b : Nat) : jor (kJ a) (kJ b) = kJ (a ||| b) := by
  show (BitVec.ofInt 64 (BitVec.ofNat 64 a).toInt ||| BitVec.ofInt 64 (BitVec.ofNat 64 b).toInt).toInt = _
  rw [BitVec.ofInt_toInt, BitVec.ofInt_toInt]
  unfold kJ
  congr 1
  apply BitVec.eq_of_toNat_eq
  rw [BitVec.toNat_or, BitVec.toNat_ofNat, BitVec.toNat_ofNat, BitVec.toNat_ofNat, Nat.or_mod_two_pow]
theorem jand_k (a b : Nat) : jand (kJ a) (kJ b) = kJ (a &&& b) := by
  show (BitVec.ofInt 64 (BitVec.ofNat 64 a).toInt &&& BitVec.ofInt 64 (BitVec.ofNat 64 b).toInt).toInt = _
  rw [BitVec.ofInt_toInt, BitVec.ofInt_toInt]
  unfold kJ
  congr 1
  apply BitVec.eq_of_toNat_eq
  rw [BitVec.toNat_and, BitVec.toNat_ofNat, BitVec.toNat_ofNat, BitVec.toNat_ofNat, Nat.and_mod_two_pow]
theorem jshl_1 : ∀ i : Nat, i < 64 → jshl 1 (i : Int) = kJ (2 ^ i) := by decide +kernel
theorem kJ_0 : kJ 0 = 0 := by decide +kernel
theorem kJ_1 : kJ 1 = 1 := by decide +kernel
