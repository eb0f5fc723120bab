/-! SETS OF KEYS, in a long. -/
def kJ (n : Nat) : Int := (BitVec.ofNat 64 n).toInt
theorem jor_k (a b : Nat) : jor (kJ a) (kJ b) = kJ (a ||| b) := by
  show (BitVec.ofInt 64 (BitVec.ofNat 64 a).toInt ||| BitVec.ofInt 64 (BitVec.ofNat 64 b).toInt).toInt = _
  rw [BitVec.ofInt_toInt, BitVec.ofInt_toInt]
  unfold kJ
  congr 1
  apply BitVec.eq_of_toNat_eq
  rw [BitVec.toNat_or, BitVec.toNat_ofNat, BitVec.toNat_ofNat, BitVec.toNat_ofNat, Nat.or_mod_two_pow]
theorem jand_k (a b : Nat) : jand (kJ a) (kJ b) = kJ (a &&& b) := by
  show (BitVec.ofInt 64 (BitVec.ofNat 64 a).toInt &&& BitVec.ofInt 64 (BitVec.ofNat 64 b).toInt).toInt = _
  rw [BitVec.ofInt_toInt, BitVec.ofInt_toInt]
  unfold kJ
  congr 1
  apply BitVec.eq_of_toNat_eq
  rw [BitVec.toNat_and, BitVec.toNat_ofNat, BitVec.toNat_ofNat, BitVec.toNat_ofNat, Nat.and_mod_two_pow]
theorem jshl_1 : ∀ i : Nat, i < 64 → jshl 1 (i : Int) = kJ (2 ^ i) := by decide +kernel
theorem kJ_0 : kJ 0 = 0 := by decide +kernel
theorem kJ_1 : kJ 1 = 1 := by decide +kernel
theorem us_i : ∀ i : Nat, i < 64 → (((Int32.ofInt (i : Int)).toInt64.toUInt64 &&& Int64.toUInt64 63).toBitVec % 64) = BitVec.ofNat 64 i := by decide +kernel
theorem jushr_k {a i : Nat} (ha : a < 2 ^ 64) (hi : i < 64) : jushr (kJ a) (i : Int) = kJ (a >>> i) := by
  have e : jushr (kJ a) (i : Int) = (BitVec.ofInt 64 (BitVec.ofNat 64 a).toInt >>> (((Int32.ofInt (i : Int)).toInt64.toUInt64 &&& Int64.toUInt64 63).toBitVec % 64)).toInt := rfl
  rw [e, us_i i hi, BitVec.ofInt_toInt]
  unfold kJ
  congr 1
  apply BitVec.eq_of_toNat_eq
  have h2 : a >>> i ≤ a := by rw [Nat.shiftRight_eq_div_pow]; exact Nat.div_le_self _ _
  rw [BitVec.toNat_ofNat, Nat.mod_eq_of_lt (by omega)]
  show (BitVec.ofNat 64 a >>> (BitVec.ofNat 64 i).toNat).toNat = _
  rw [BitVec.toNat_ushiftRight, BitVec.toNat_ofNat, BitVec.toNat_ofNat, Nat.mod_eq_of_lt ha, Nat.mod_eq_of_lt (by omega)]
