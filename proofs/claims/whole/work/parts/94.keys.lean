/-! SETS OF KEYS, in a long. -/
def kJ (n : Nat) : Int := (BitVec.ofNat 64 n).toInt
theorem jor_k (a b : Nat) : jor (kJ a) (kJ b) = kJ (a ||| b) := by
  show (BitVec.ofInt 64 (BitVec.ofNat 64 a).toInt ||| BitVec.ofInt 64 (BitVec.ofNat 64 b).toInt).toInt = _
  rw [BitVec.ofInt_toInt, BitVec.ofInt_toInt]
  unfold kJ
  congr 1
  apply BitVec.eq_of_toNat_eq
  rw [BitVec.toNat_or, BitVec.toNat_ofNat, BitVec.toNat_ofNat, BitVec.toNat_ofNat, Nat.or_mod_two_pow]
theorem jand_k (a b : Nat) : jand (kJ a) (kJ b) = kJ (a &&& b) := by
  show (BitVec.ofInt 64 (BitVec.ofNat 64 a).toInt &&& BitVec.ofInt 64 (BitVec.ofNat 64 b).toInt).toInt = _
  rw [BitVec.ofInt_toInt, BitVec.ofInt_toInt]
  unfold kJ
  congr 1
  apply BitVec.eq_of_toNat_eq
  rw [BitVec.toNat_and, BitVec.toNat_ofNat, BitVec.toNat_ofNat, BitVec.toNat_ofNat, Nat.and_mod_two_pow]
theorem jshl_1 : ∀ i : Nat, i < 64 → jshl 1 (i : Int) = kJ (2 ^ i) := by decide +kernel
theorem kJ_0 : kJ 0 = 0 := by decide +kernel
theorem kJ_1 : kJ 1 = 1 := by decide +kernel
theorem us_i : ∀ i : Nat, i < 64 → (((Int32.ofInt (i : Int)).toInt64.toUInt64 &&& Int64.toUInt64 63).toBitVec % 64) = BitVec.ofNat 64 i := by decide +kernel
theorem jushr_k {a i : Nat} (ha : a < 2 ^ 64) (hi : i < 64) : jushr (kJ a) (i : Int) = kJ (a >>> i) := by
  have e : jushr (kJ a) (i : Int) = (BitVec.ofInt 64 (BitVec.ofNat 64 a).toInt >>> (((Int32.ofInt (i : Int)).toInt64.toUInt64 &&& Int64.toUInt64 63).toBitVec % 64)).toInt := rfl
  rw [e, us_i i hi, BitVec.ofInt_toInt]
  unfold kJ
  congr 1
  apply BitVec.eq_of_toNat_eq
  have h2 : a >>> i ≤ a := by rw [Nat.shiftRight_eq_div_pow]; exact Nat.div_le_self _ _
  rw [BitVec.toNat_ofNat, Nat.mod_eq_of_lt (by omega)]
  show (BitVec.ofNat 64 a >>> (BitVec.ofNat 64 i).toNat).toNat = _
  rw [BitVec.toNat_ushiftRight, BitVec.toNat_ofNat, BitVec.toNat_ofNat, Nat.mod_eq_of_lt ha, Nat.mod_eq_of_lt (by omega)]
theorem ss_i : ∀ i : Nat, i < 64 → (((Int32.ofInt (i : Int)).toInt64 &&& 63).toBitVec.smod 64) = BitVec.ofNat 64 i := by decide +kernel
/-- is a key in the set -/
theorem jbit_k {a i : Nat} (ha : a < 2 ^ 64) (hi : i < 64) : jand (jshr (kJ a) (i : Int)) 1 = if a.testBit i = true then 1 else 0 := by
  have e : jshr (kJ a) (i : Int) = (BitVec.sshiftRight (BitVec.ofInt 64 (BitVec.ofNat 64 a).toInt) (((Int32.ofInt (i : Int)).toInt64 &&& 63).toBitVec.smod 64).toNat).toInt := rfl
  rw [e, ss_i i hi, BitVec.ofInt_toInt, BitVec.toNat_ofNat, Nat.mod_eq_of_lt (by omega)]
  show (BitVec.ofInt 64 ((BitVec.ofNat 64 a).sshiftRight i).toInt &&& BitVec.ofInt 64 1).toInt = _
  rw [BitVec.ofInt_toInt]
  have key : ((BitVec.ofNat 64 a).sshiftRight i &&& BitVec.ofInt 64 1) = if a.testBit i = true then 1#64 else 0#64 := by
    apply BitVec.eq_of_getLsbD_eq
    intro j hj
    rw [BitVec.getLsbD_and, BitVec.getLsbD_sshiftRight]
    have e1 : (BitVec.ofInt 64 1).getLsbD j = decide (j = 0) := by
      rw [show BitVec.ofInt 64 1 = 1#64 from rfl, BitVec.getLsbD_one]
      simp
    rw [e1]
    by_cases c : j = 0
    · subst c
      have c2 : i + 0 < 64 := by omega
      have e2 : (BitVec.ofNat 64 a).getLsbD i = a.testBit i := by rw [BitVec.getLsbD_ofNat]; simp [hi]
      have e3 : (BitVec.ofNat 64 a)[i] = a.testBit i := by rw [← BitVec.getLsbD_eq_getElem]; exact e2
      cases hb : a.testBit i <;> simp [hi, e3, hb]
    · cases hb : a.testBit i <;> simp [c]
  rw [key]
  split <;> decide +kernel
