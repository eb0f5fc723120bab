/-! the lowest -/
def ltB (k a : Nat) : Prop := ∃ q, a = 2 ^ k * q ∧ q % 2 = 1
theorem ltB_ex : ∀ n a : Nat, a ≤ n → 0 < a → ∃ k, ltB k a := by
  intro n
  induction n with
  | zero => intro a h1 h2; omega
  | succ n ih =>
    intro a h1 h2
    by_cases c : a % 2 = 1
    · exact ⟨0, a, by rw [Nat.pow_zero, Nat.one_mul], c⟩
    · obtain ⟨k, q, e1, e2⟩ := ih (a / 2) (by omega) (by omega)
      exact ⟨k + 1, q, by rw [Nat.pow_succ, Nat.mul_comm (2 ^ k) 2, Nat.mul_assoc, ← e1]; omega, e2⟩
theorem ltB_bit {k a : Nat} (h : ltB k a) : a.testBit k = true ∧ ∀ j, j < k → a.testBit j = false := by
  obtain ⟨q, rfl, e2⟩ := h
  refine ⟨?_, fun j hj => ?_⟩
  · rw [Nat.testBit_two_pow_mul, Nat.sub_self, Nat.testBit_zero]; simp [e2]
  · rw [Nat.testBit_two_pow_mul]; simp; omega
theorem ltB_le {k a : Nat} (h : ltB k a) : 2 ^ k ≤ a := by
  obtain ⟨q, rfl, e2⟩ := h
  exact Nat.le_mul_of_pos_right _ (by omega)
theorem ltB_lt {k a n : Nat} (h : ltB k a) (ha : a < 2 ^ n) : k < n := by
  have := ltB_le h
  exact (Nat.pow_lt_pow_iff_right (by omega)).mp (Nat.lt_of_le_of_lt this ha)
theorem ofI_n (u : Nat) : BitVec.ofInt 32 (w32 (u : Int)) = BitVec.ofNat 32 u := by
  apply BitVec.eq_of_toNat_eq
  rw [BitVec.toNat_ofInt, BitVec.toNat_ofNat]
  unfold w32
  omega
theorem lowbits {k u : Nat} (h : ltB k u) (hu : u < 2 ^ 32) : iand (ixor (w32 (u : Int)) (-1)) (w32 (w32 (u : Int) - 1)) = ((2 ^ k - 1 : Nat) : Int) := by
  have hk := ltB_lt h hu
  have hle := ltB_le h
  have hp := Nat.two_pow_pos k
  have hk31 : 2 ^ k ≤ 2 ^ 31 := Nat.pow_le_pow_right (by omega) (by omega)
  have e0 : w32 (w32 (u : Int) - 1) = w32 ((u - 1 : Nat) : Int) := by unfold w32; omega
  have e1 : ixor (w32 (u : Int)) (-1) = (BitVec.ofInt 32 (w32 (u : Int)) ^^^ BitVec.ofInt 32 (-1)).toInt := rfl
  have e2 : ∀ x y : Int, iand x y = (BitVec.ofInt 32 x &&& BitVec.ofInt 32 y).toInt := fun _ _ => rfl
  rw [e0, e2, e1, BitVec.ofInt_toInt, ofI_n, ofI_n]
  refine bvI (x := (BitVec.ofNat 32 u ^^^ BitVec.ofInt 32 (-1)) &&& BitVec.ofNat 32 (u - 1)) (by omega) ?_
  apply Nat.eq_of_testBit_eq
  intro j
  have m1 : BitVec.ofInt 32 (-1) = BitVec.allOnes 32 := by decide
  rw [← BitVec.getLsbD, BitVec.getLsbD_and, BitVec.getLsbD_xor, m1, BitVec.getLsbD_allOnes, BitVec.getLsbD_ofNat, BitVec.getLsbD_ofNat, Nat.testBit_two_pow_sub_one]
  obtain ⟨q, rfl, e3⟩ := h
  have e4 : 2 ^ k * q - 1 = 2 ^ k * (q - 1) + (2 ^ k - 1) := by
    have : 2 ^ k * q = 2 ^ k * (q - 1) + 2 ^ k := by rw [← Nat.mul_succ, show (q - 1).succ = q by omega]
    omega
  rw [e4, Nat.testBit_two_pow_mul_add _ (by omega), Nat.testBit_two_pow_mul, Nat.testBit_two_pow_sub_one]
  by_cases c : j < k
  · have c2 : ¬ k ≤ j := by omega
    have c3 : j < 32 := by omega
    simp [c, c2, c3]
  · have c2 : k ≤ j := by omega
    by_cases c3 : j < 32
    · simp only [c, c2, c3, decide_true, decide_false, ge_iff_le, Bool.true_and, if_neg, not_false_eq_true, if_false]
      cases hd : j - k with
      | zero => rw [Nat.testBit_zero, Nat.testBit_zero]; simp [e3]
      | succ i =>
        rw [Nat.testBit_succ, Nat.testBit_succ, show (q - 1) / 2 = q / 2 by omega]
        cases (q / 2).testBit i <;> rfl
    · simp [c, c3]
def tz1 (p : Int × Int) (s : Int) (m : Int) : Int × Int := if m < p.1 then (iushr p.1 s, w32 (p.2 + s)) else p
def tzf (u : Int) : Int := let p := tz1 (tz1 (tz1 (tz1 (u, 1) 16 65536) 8 256) 4 16) 2 4; w32 (p.2 + iushr p.1 1)
theorem tzf_k : ∀ k : Nat, k < 32 → 0 < k → tzf ((2 ^ k - 1 : Nat) : Int) = (k : Int) := by decide +kernel
theorem tz_74 (lv : Nat) (p : Int × Int) (h : Hp) : run lv 314 74 [aI p.1, aI p.2] [] h = ri (w32 (p.2 + iushr p.1 1)) h := by
  simp (disch := omega) only [x_4_0, x_1, x_19, x_12, x_17, x_7_0, x_72, x_82, x_7_1_I, x_7_1_A, x_7_1_U, x_67, x_10_1_I, x_10_1_A, x_10_1_U, x_22, x_61, x_4_1, x_11, u_314_0, u_314_17, u_314_34, u_314_49, u_314_62, u_314_74, Int.reduceEq, Int.reduceLT, Int.reduceLE, reduceIte, Int.reduceAdd, Int.reduceSub, Int.reduceMul, Int.reduceNeg, Int.reduceToNat, Bool.false_eq_true, eq_self, if_pos, if_neg]
theorem tz_62 (lv : Nat) (p : Int × Int) (h : Hp) : run lv 314 62 [aI p.1, aI p.2] [] h = run lv 314 74 [aI (tz1 p 2 4).1, aI (tz1 p 2 4).2] [] h := by
  by_cases c : 4 < p.1
  · rw [show tz1 p 2 4 = (iushr p.1 2, w32 (p.2 + 2)) from if_pos c]
    simp (disch := omega) only [x_4_0, x_1, x_19, x_12, x_17, x_7_0, x_72, x_82, x_7_1_I, x_7_1_A, x_7_1_U, x_67, x_10_1_I, x_10_1_A, x_10_1_U, x_22, x_61, x_4_1, x_11, u_314_0, u_314_17, u_314_34, u_314_49, u_314_62, Int.reduceEq, Int.reduceLT, Int.reduceLE, reduceIte, Int.reduceAdd, Int.reduceSub, Int.reduceMul, Int.reduceNeg, Int.reduceToNat, Bool.false_eq_true, eq_self, if_pos, if_neg]
  · rw [show tz1 p 2 4 = p from if_neg c]
    simp (disch := omega) only [x_4_0, x_1, x_19, x_12, x_17, x_7_0, x_72, x_82, x_7_1_I, x_7_1_A, x_7_1_U, x_67, x_10_1_I, x_10_1_A, x_10_1_U, x_22, x_61, x_4_1, x_11, u_314_0, u_314_17, u_314_34, u_314_49, u_314_62, Int.reduceEq, Int.reduceLT, Int.reduceLE, reduceIte, Int.reduceAdd, Int.reduceSub, Int.reduceMul, Int.reduceNeg, Int.reduceToNat, Bool.false_eq_true, eq_self, if_pos, if_neg]
theorem tz_49 (lv : Nat) (p : Int × Int) (h : Hp) : run lv 314 49 [aI p.1, aI p.2] [] h = run lv 314 62 [aI (tz1 p 4 16).1, aI (tz1 p 4 16).2] [] h := by
  by_cases c : 16 < p.1
  · rw [show tz1 p 4 16 = (iushr p.1 4, w32 (p.2 + 4)) from if_pos c]
    simp (disch := omega) only [x_4_0, x_1, x_19, x_12, x_17, x_7_0, x_72, x_82, x_7_1_I, x_7_1_A, x_7_1_U, x_67, x_10_1_I, x_10_1_A, x_10_1_U, x_22, x_61, x_4_1, x_11, u_314_0, u_314_17, u_314_34, u_314_49, Int.reduceEq, Int.reduceLT, Int.reduceLE, reduceIte, Int.reduceAdd, Int.reduceSub, Int.reduceMul, Int.reduceNeg, Int.reduceToNat, Bool.false_eq_true, eq_self, if_pos, if_neg]
  · rw [show tz1 p 4 16 = p from if_neg c]
    simp (disch := omega) only [x_4_0, x_1, x_19, x_12, x_17, x_7_0, x_72, x_82, x_7_1_I, x_7_1_A, x_7_1_U, x_67, x_10_1_I, x_10_1_A, x_10_1_U, x_22, x_61, x_4_1, x_11, u_314_0, u_314_17, u_314_34, u_314_49, Int.reduceEq, Int.reduceLT, Int.reduceLE, reduceIte, Int.reduceAdd, Int.reduceSub, Int.reduceMul, Int.reduceNeg, Int.reduceToNat, Bool.false_eq_true, eq_self, if_pos, if_neg]
theorem tz_34 (lv : Nat) (p : Int × Int) (h : Hp) : run lv 314 34 [aI p.1, aI p.2] [] h = run lv 314 49 [aI (tz1 p 8 256).1, aI (tz1 p 8 256).2] [] h := by
  by_cases c : 256 < p.1
  · rw [show tz1 p 8 256 = (iushr p.1 8, w32 (p.2 + 8)) from if_pos c]
    simp (disch := omega) only [x_4_0, x_1, x_19, x_12, x_17, x_7_0, x_72, x_82, x_7_1_I, x_7_1_A, x_7_1_U, x_67, x_10_1_I, x_10_1_A, x_10_1_U, x_22, x_61, x_4_1, x_11, u_314_0, u_314_17, u_314_34, Int.reduceEq, Int.reduceLT, Int.reduceLE, reduceIte, Int.reduceAdd, Int.reduceSub, Int.reduceMul, Int.reduceNeg, Int.reduceToNat, Bool.false_eq_true, eq_self, if_pos, if_neg]
  · rw [show tz1 p 8 256 = p from if_neg c]
    simp (disch := omega) only [x_4_0, x_1, x_19, x_12, x_17, x_7_0, x_72, x_82, x_7_1_I, x_7_1_A, x_7_1_U, x_67, x_10_1_I, x_10_1_A, x_10_1_U, x_22, x_61, x_4_1, x_11, u_314_0, u_314_17, u_314_34, Int.reduceEq, Int.reduceLT, Int.reduceLE, reduceIte, Int.reduceAdd, Int.reduceSub, Int.reduceMul, Int.reduceNeg, Int.reduceToNat, Bool.false_eq_true, eq_self, if_pos, if_neg]
theorem ntz_i (lv k u : Nat) (h : Hp) (hb : ltB k u) (h1 : u < 2 ^ 32) : cl (lv + 1) 314 [aI (w32 (u : Int))] h = ri (k : Int) h := by
  have e := lowbits hb h1
  have hk := ltB_lt hb h1
  rw [in_314]
  by_cases c : k = 0
  · subst c
    have e2 : iand ((2 ^ 0 - 1 : Nat) : Int) 32 = 0 := by decide
    have e3 : ¬ (0 : Int) < ((2 ^ 0 - 1 : Nat) : Int) := by decide
    simp (disch := omega) only [x_4_0, x_1, x_19, x_12, x_17, x_7_0, x_72, x_82, x_7_1_I, x_7_1_A, x_7_1_U, x_67, x_10_1_I, x_10_1_A, x_10_1_U, x_22, x_61, x_4_1, x_11, u_314_0, u_314_17, u_314_34, u_314_49, u_314_62, u_314_74, e, e2, e3, Int.reduceEq, Int.reduceLT, Int.reduceLE, reduceIte, Int.reduceAdd, Int.reduceSub, Int.reduceMul, Int.reduceNeg, Int.reduceToNat, Bool.false_eq_true, eq_self, if_pos, if_neg]
    rfl
  · have t := tzf_k k hk (by omega)
    have hp : 2 ^ 1 ≤ 2 ^ k := Nat.pow_le_pow_right (by omega) (by omega)
    have e3 : (0 : Int) < ((2 ^ k - 1 : Nat) : Int) := by omega
    rw [← t]
    generalize ((2 ^ k - 1 : Nat) : Int) = z at *
    have e4 : run lv 314 34 [aI (tz1 (z, 1) 16 65536).1, aI (tz1 (z, 1) 16 65536).2] [] h = ri (tzf z) h := by
      rw [tz_34, tz_49, tz_62, tz_74]; rfl
    rw [← e4]
    by_cases c6 : 65536 < z
    · rw [show tz1 (z, 1) 16 65536 = (iushr z 16, w32 (1 + 16)) from if_pos c6]
      simp (disch := omega) only [x_4_0, x_1, x_19, x_12, x_17, x_7_0, x_72, x_82, x_7_1_I, x_7_1_A, x_7_1_U, x_67, x_10_1_I, x_10_1_A, x_10_1_U, x_22, x_61, x_4_1, x_11, u_314_0, u_314_17, e, e3, Int.reduceEq, Int.reduceLT, Int.reduceLE, reduceIte, Int.reduceAdd, Int.reduceSub, Int.reduceMul, Int.reduceNeg, Int.reduceToNat, Bool.false_eq_true, eq_self, if_pos, if_neg]
    · rw [show tz1 (z, 1) 16 65536 = (z, 1) from if_neg c6]
      simp (disch := omega) only [x_4_0, x_1, x_19, x_12, x_17, x_7_0, x_72, x_82, x_7_1_I, x_7_1_A, x_7_1_U, x_67, x_10_1_I, x_10_1_A, x_10_1_U, x_22, x_61, x_4_1, x_11, u_314_0, u_314_17, e, e3, Int.reduceEq, Int.reduceLT, Int.reduceLE, reduceIte, Int.reduceAdd, Int.reduceSub, Int.reduceMul, Int.reduceNeg, Int.reduceToNat, Bool.false_eq_true, eq_self, if_pos, if_neg]
theorem ntz_c (lv k a : Nat) (h : Hp) (hb : ltB k a) (h1 : a < 2 ^ 64) : cl (lv + 2) 317 [aJ (kJ a)] h = ri (k : Int) h := by
  have e1 : jushr (kJ a) 32 = kJ (a / 2 ^ 32) := by
    have := jushr_k h1 (show 32 < 64 by omega)
    rw [Nat.shiftRight_eq_div_pow] at this
    exact this
  have e2 : w32 (kJ (a / 2 ^ 32)) = w32 ((a / 2 ^ 32 : Nat) : Int) := kJ_w _
  have e3 : w32 (kJ a) = w32 ((a % 2 ^ 32 : Nat) : Int) := by rw [kJ_w]; unfold w32; omega
  have hpos := ltB_le hb
  have hp2 := Nat.two_pow_pos k
  rw [in_317]
  by_cases c : a % 2 ^ 32 = 0
  · obtain ⟨k', q, f1, f2⟩ := ltB_ex _ (a / 2 ^ 32) (Nat.le_refl _) (by omega)
    have hb2 : ltB (k' + 32) a := ⟨q, by rw [Nat.pow_add, Nat.mul_comm (2 ^ k') _, Nat.mul_assoc, ← f1]; omega, f2⟩
    have ek : k = k' + 32 := by
      have x := ltB_bit hb
      have y := ltB_bit hb2
      rcases Nat.lt_trichotomy k (k' + 32) with z | z | z
      · have := y.2 _ z; rw [x.1] at this; exact absurd this (by decide)
      · exact z
      · have := x.2 _ z; rw [y.1] at this; exact absurd this (by decide)
    have e := ntz_i lv k' (a / 2 ^ 32) h ⟨q, f1, f2⟩ (by omega)
    have hk := ltB_lt hb h1
    have z : w32 ((0 : Nat) : Int) = 0 := by decide
    rw [c, z] at e3
    simp (disch := omega) only [x_5_0, x_24, x_7_2_I, x_7_2_A, x_7_2_U, x_4_2, x_69, x_1, x_31, x_80_1_d0, x_80_1_d1, x_80_1_d2, x_80_1_d3, x_80_1_d4, x_11, x_60, x_61, x_82, cb_ri, cb_rl, cb_rv, cb_th, cb_ite, ps_s, ps_n, u_317_0, u_317_21, u_317_25, e1, e2, e3, e, Int.reduceEq, Int.reduceLT, Int.reduceLE, reduceIte, Int.reduceAdd, Int.reduceSub, Int.reduceMul, Int.reduceNeg, Int.reduceToNat, Bool.false_eq_true, eq_self, if_pos, if_neg, w32_id]
    exact ri_e (by omega)
  · obtain ⟨k', q, f1, f2⟩ := ltB_ex _ (a % 2 ^ 32) (Nat.le_refl _) (by omega)
    have hk' := ltB_lt (n := 32) ⟨q, f1, f2⟩ (by omega)
    have hb2 : ltB k' a := by
      refine ⟨2 ^ (32 - k') * (a / 2 ^ 32) + q, ?_, ?_⟩
      · rw [Nat.mul_add, ← f1, ← Nat.mul_assoc, ← Nat.pow_add, show k' + (32 - k') = 32 by omega]; omega
      · rw [show 32 - k' = (31 - k') + 1 by omega, Nat.pow_succ, Nat.mul_comm (2 ^ (31 - k')) 2, Nat.mul_assoc]; omega
    have ek : k = k' := by
      have x := ltB_bit hb
      have y := ltB_bit hb2
      rcases Nat.lt_trichotomy k k' with z | z | z
      · have := y.2 _ z; rw [x.1] at this; exact absurd this (by decide)
      · exact z
      · have := x.2 _ z; rw [y.1] at this; exact absurd this (by decide)
    subst ek
    have e := ntz_i lv k (a % 2 ^ 32) h ⟨q, f1, f2⟩ (by omega)
    have z : ¬ w32 ((a % 2 ^ 32 : Nat) : Int) = 0 := by unfold w32; omega
    generalize w32 ((a % 2 ^ 32 : Nat) : Int) = q at *
    simp (disch := omega) only [x_5_0, x_24, x_7_2_I, x_7_2_A, x_7_2_U, x_4_2, x_69, x_1, x_31, x_80_1_d0, x_80_1_d1, x_80_1_d2, x_80_1_d3, x_80_1_d4, x_11, x_60, x_61, x_82, cb_ri, cb_rl, cb_rv, cb_th, cb_ite, ps_s, ps_n, u_317_0, u_317_21, u_317_25, e3, e, z, Int.reduceEq, Int.reduceLT, Int.reduceLE, reduceIte, Int.reduceAdd, Int.reduceSub, Int.reduceMul, Int.reduceNeg, Int.reduceToNat, Bool.false_eq_true, eq_self, if_pos, if_neg]
