/-! SETS OF KEYS, in a long. -/
def kJ (n : Nat) : Int := (BitVec.ofNat 64 n).toInt
theorem jor_k (a b : Nat) : jor (kJ a) (kJ b) = kJ (a ||| b) := by
  show (BitVec.ofInt 64 (BitVec.ofNat 64 a).toInt ||| BitVec.ofInt 64 (BitVec.ofNat 64 b).toInt).toInt = _
  rw [BitVec.ofInt_toInt, BitVec.ofInt_toInt]
  unfold kJ
  congr 1
  apply BitVec.eq_of_toNat_eq
  rw [BitVec.toNat_or, BitVec.toNat_ofNat, BitVec.toNat_ofNat, BitVec.toNat_ofNat, Nat.or_mod_two_pow]
theorem jand_k (a b : Nat) : jand (kJ a) (kJ b) = kJ (a &&& b) := by
  show (BitVec.ofInt 64 (BitVec.ofNat 64 a).toInt &&& BitVec.ofInt 64 (BitVec.ofNat 64 b).toInt).toInt = _
  rw [BitVec.ofInt_toInt, BitVec.ofInt_toInt]
  unfold kJ
  congr 1
  apply BitVec.eq_of_toNat_eq
  rw [BitVec.toNat_and, BitVec.toNat_ofNat, BitVec.toNat_ofNat, BitVec.toNat_ofNat, Nat.and_mod_two_pow]
theorem jshl_1 : ∀ i : Nat, i < 64 → jshl 1 (i : Int) = kJ (2 ^ i) := by decide +kernel
theorem kJ_0 : kJ 0 = 0 := by decide +kernel
theorem kJ_1 : kJ 1 = 1 := by decide +kernel
theorem us_i : ∀ i : Nat, i < 64 → (((Int32.ofInt (i : Int)).toInt64.toUInt64 &&& Int64.toUInt64 63).toBitVec % 64) = BitVec.ofNat 64 i := by decide +kernel
theorem jushr_k {a i : Nat} (ha : a < 2 ^ 64) (hi : i < 64) : jushr (kJ a) (i : Int) = kJ (a >>> i) := by
  have e : jushr (kJ a) (i : Int) = (BitVec.ofInt 64 (BitVec.ofNat 64 a).toInt >>> (((Int32.ofInt (i : Int)).toInt64.toUInt64 &&& Int64.toUInt64 63).toBitVec % 64)).toInt := rfl
  rw [e, us_i i hi, BitVec.ofInt_toInt]
  unfold kJ
  congr 1
  apply BitVec.eq_of_toNat_eq
  have h2 : a >>> i ≤ a := by rw [Nat.shiftRight_eq_div_pow]; exact Nat.div_le_self _ _
  rw [BitVec.toNat_ofNat, Nat.mod_eq_of_lt (by omega)]
  show (BitVec.ofNat 64 a >>> (BitVec.ofNat 64 i).toNat).toNat = _
  rw [BitVec.toNat_ushiftRight, BitVec.toNat_ofNat, BitVec.toNat_ofNat, Nat.mod_eq_of_lt ha, Nat.mod_eq_of_lt (by omega)]
theorem ss_i : ∀ i : Nat, i < 64 → (((Int32.ofInt (i : Int)).toInt64 &&& 63).toBitVec.smod 64) = BitVec.ofNat 64 i := by decide +kernel
/-- is a key in the set -/
theorem jbit_k {a i : Nat} (ha : a < 2 ^ 64) (hi : i < 64) : jand (jshr (kJ a) (i : Int)) 1 = if a.testBit i = true then 1 else 0 := by
  have e : jshr (kJ a) (i : Int) = (BitVec.sshiftRight (BitVec.ofInt 64 (BitVec.ofNat 64 a).toInt) (((Int32.ofInt (i : Int)).toInt64 &&& 63).toBitVec.smod 64).toNat).toInt := rfl
  rw [e, ss_i i hi, BitVec.ofInt_toInt, BitVec.toNat_ofNat, Nat.mod_eq_of_lt (by omega)]
  show (BitVec.ofInt 64 ((BitVec.ofNat 64 a).sshiftRight i).toInt &&& BitVec.ofInt 64 1).toInt = _
  rw [BitVec.ofInt_toInt]
  have key : ((BitVec.ofNat 64 a).sshiftRight i &&& BitVec.ofInt 64 1) = if a.testBit i = true then 1#64 else 0#64 := by
    apply BitVec.eq_of_getLsbD_eq
    intro j hj
    rw [BitVec.getLsbD_and, BitVec.getLsbD_sshiftRight]
    have e1 : (BitVec.ofInt 64 1).getLsbD j = decide (j = 0) := by
      rw [show BitVec.ofInt 64 1 = 1#64 from rfl, BitVec.getLsbD_one]
      simp
    rw [e1]
    by_cases c : j = 0
    · subst c
      have c2 : i + 0 < 64 := by omega
      have e2 : (BitVec.ofNat 64 a).getLsbD i = a.testBit i := by rw [BitVec.getLsbD_ofNat]; simp [hi]
      have e3 : (BitVec.ofNat 64 a)[i] = a.testBit i := by rw [← BitVec.getLsbD_eq_getElem]; exact e2
      cases hb : a.testBit i <;> simp [hi, e3, hb]
    · cases hb : a.testBit i <;> simp [c]
  rw [key]
  split <;> decide +kernel
/-- the keys of the notes that stand at a beat -/
def oKs (M : Nat → Int) (b : Int) : Nat → Nat
  | 0 => 0
  | i + 1 => if atB M b i = true then oKs M b i ||| 2 ^ (M (50 + 4 * i + 1)).toNat else oKs M b i
theorem keysAt_c (lv k N : Nat) (M : Nat → Int) (b : Int) (h : Hp) (R : RN h k M N) (hk : ∀ i, i < N → 0 ≤ M (50 + 4 * i + 1) ∧ M (50 + 4 * i + 1) ≤ 63) : cl (lv + 2) 54 [aA 7 k, aI b] h = rl (kJ (oKs M b N)) h := by
  have hN := R.2.1
  have h40 := R.1
  rw [in_54]
  simp (disch := omega) only [x_2, x_8_2_I, x_8_2_A, x_8_2_U, x_1, x_7_4_I, x_7_4_A, x_7_4_U, x_61, x_4_4, x_6_0, x_33, x_65, x_34, x_38_134, x_38_135, x_4_1, x_63, x_79_2_7_d0, x_79_2_7_d1, x_79_2_7_d2, x_79_2_7_d3, x_79_2_7_d4, x_68, x_5_2, x_29, x_28, x_10_4_I, x_10_4_A, x_10_4_U, x_60, x_88, cb_ri, cb_rl, cb_rv, cb_th, cb_ite, ps_s, ps_n, u_54_0, u_54_46, u_54_52]
  rw [← kJ_0]
  refine loop_up (F := fun i => run (lv + 1) 54 5 [aA 7 k, aI b, aJ (kJ (oKs M b i)), none, aI (i : Int)] [] h) (N := N) ?_ ?_ 0 (by omega)
  · intro i hi
    have st := isStanding_c lv k N i M h R hi
    obtain ⟨m0, m1, -⟩ := R.2.2.2 i hi
    have hki := hk i hi
    show run _ _ _ _ _ _ = run _ _ _ _ _ _
    simp only [oKs]
    rw [hd_54_5]
    by_cases c : atB M b i = true
    · rw [if_pos c]
      unfold atB at c
      rw [Bool.and_eq_true] at c
      have c2 := of_decide_eq_true c.2
      rw [if_pos c.1] at st
      have e1 : jshl 1 (M (50 + 4 * i + 1)) = kJ (2 ^ (M (50 + 4 * i + 1)).toNat) := by
        have := jshl_1 (M (50 + 4 * i + 1)).toNat (by omega)
        rw [show (((M (50 + 4 * i + 1)).toNat : Nat) : Int) = M (50 + 4 * i + 1) by omega] at this
        exact this
      simp (disch := omega) only [x_2, x_8_2_I, x_8_2_A, x_8_2_U, x_1, x_7_4_I, x_7_4_A, x_7_4_U, x_61, x_4_4, x_6_0, x_33, x_65, x_34, x_38_134, x_38_135, x_4_1, x_63, x_79_2_7_d0, x_79_2_7_d1, x_79_2_7_d2, x_79_2_7_d3, x_79_2_7_d4, x_68, x_5_2, x_29, x_28, x_10_4_I, x_10_4_A, x_10_4_U, x_60, x_88, cb_ri, cb_rl, cb_rv, cb_th, cb_ite, ps_s, ps_n, u_54_0, u_54_46, u_54_52, h40, tn, m0, m1, c2, st, e1, jor_k, Int.reduceEq, Int.reduceLT, Int.reduceLE, reduceIte, Int.reduceAdd, Int.reduceSub, Int.reduceMul, Int.reduceNeg, Int.reduceToNat, Bool.false_eq_true, eq_self, if_pos, if_neg, ci, w32_id]
    · rw [if_neg c]
      by_cases c1 : M (50 + 4 * i) = b
      · have c3 : ¬ stB M i = true := fun z => c (by unfold atB; rw [z, decide_eq_true c1]; rfl)
        rw [if_neg c3] at st
        simp (disch := omega) only [x_2, x_8_2_I, x_8_2_A, x_8_2_U, x_1, x_7_4_I, x_7_4_A, x_7_4_U, x_61, x_4_4, x_6_0, x_33, x_65, x_34, x_38_134, x_38_135, x_4_1, x_63, x_79_2_7_d0, x_79_2_7_d1, x_79_2_7_d2, x_79_2_7_d3, x_79_2_7_d4, x_68, x_5_2, x_29, x_28, x_10_4_I, x_10_4_A, x_10_4_U, x_60, x_88, cb_ri, cb_rl, cb_rv, cb_th, cb_ite, ps_s, ps_n, u_54_0, u_54_46, u_54_52, h40, tn, m0, c1, st, Int.reduceEq, Int.reduceLT, Int.reduceLE, reduceIte, Int.reduceAdd, Int.reduceSub, Int.reduceMul, Int.reduceNeg, Int.reduceToNat, Bool.false_eq_true, eq_self, if_pos, if_neg, ci, w32_id]
      · simp (disch := omega) only [x_2, x_8_2_I, x_8_2_A, x_8_2_U, x_1, x_7_4_I, x_7_4_A, x_7_4_U, x_61, x_4_4, x_6_0, x_33, x_65, x_34, x_38_134, x_38_135, x_4_1, x_63, x_79_2_7_d0, x_79_2_7_d1, x_79_2_7_d2, x_79_2_7_d3, x_79_2_7_d4, x_68, x_5_2, x_29, x_28, x_10_4_I, x_10_4_A, x_10_4_U, x_60, x_88, cb_ri, cb_rl, cb_rv, cb_th, cb_ite, ps_s, ps_n, u_54_0, u_54_46, u_54_52, h40, tn, m0, c1, Int.reduceEq, Int.reduceLT, Int.reduceLE, reduceIte, Int.reduceAdd, Int.reduceSub, Int.reduceMul, Int.reduceNeg, Int.reduceToNat, Bool.false_eq_true, eq_self, if_pos, if_neg, ci, w32_id]
  · show run _ _ _ _ _ _ = _
    rw [hd_54_5]
    simp (disch := omega) only [x_2, x_8_2_I, x_8_2_A, x_8_2_U, x_1, x_7_4_I, x_7_4_A, x_7_4_U, x_61, x_4_4, x_6_0, x_33, x_65, x_34, x_38_134, x_38_135, x_4_1, x_63, x_79_2_7_d0, x_79_2_7_d1, x_79_2_7_d2, x_79_2_7_d3, x_79_2_7_d4, x_68, x_5_2, x_29, x_28, x_10_4_I, x_10_4_A, x_10_4_U, x_60, x_88, cb_ri, cb_rl, cb_rv, cb_th, cb_ite, ps_s, ps_n, u_54_0, u_54_46, u_54_52, h40, Int.reduceEq, Int.reduceLT, Int.reduceLE, reduceIte, Int.reduceAdd, Int.reduceSub, Int.reduceMul, Int.reduceNeg, Int.reduceToNat, Bool.false_eq_true, eq_self, if_pos, if_neg]
theorem oKs_bit {M : Nat → Int} {b : Int} : ∀ {n : Nat}, (∀ i, i < n → 0 ≤ M (50 + 4 * i + 1) ∧ M (50 + 4 * i + 1) ≤ 63) → ∀ j, (oKs M b n).testBit j = anyB (thB M (j : Int) b (-1)) n := by
  intro n
  induction n with
  | zero => intro _ j; exact Nat.zero_testBit j
  | succ n ih =>
    intro hk j
    have ih := ih (fun i hi => hk i (by omega)) j
    have hkn := hk n (by omega)
    have e0 : anyB (thB M (j : Int) b (-1)) (n + 1) = (anyB (thB M (j : Int) b (-1)) n || thB M (j : Int) b (-1) n) := rfl
    have e1 : thB M (j : Int) b (-1) n = (atB M b n && decide (M (50 + 4 * n + 1) = (j : Int))) := by
      unfold thB
      rw [decide_eq_true (show (n : Int) ≠ -1 by omega), Bool.true_and]
    rw [e0, e1, ← ih]
    simp only [oKs]
    by_cases c : atB M b n = true
    · rw [if_pos c, c, tb_or, Bool.true_and]
      congr 1
      exact decide_eq_decide.mpr (by omega)
    · rw [if_neg c, Bool.eq_false_iff.mpr c, Bool.false_and, Bool.or_false]
theorem oKs_lt {M : Nat → Int} {b : Int} : ∀ {n : Nat}, (∀ i, i < n → 0 ≤ M (50 + 4 * i + 1) ∧ M (50 + 4 * i + 1) ≤ 63) → oKs M b n < 2 ^ 64 := by
  intro n
  induction n with
  | zero => intro _; show 0 < 2 ^ 64; decide
  | succ n ih =>
    intro hk
    have ih := ih (fun i hi => hk i (by omega))
    have hkn := hk n (by omega)
    simp only [oKs]
    split
    · exact Nat.or_lt_two_pow ih (Nat.pow_lt_pow_right (by omega) (by omega))
    · exact ih
