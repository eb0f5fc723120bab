/-! THE HIGHEST AND THE LOWEST KEY OF A SET. -/
theorem ri_e {x y : Int} {h : Hp} (e : x = y) : ri x h = ri y h := by rw [e]
def tpB (k u : Nat) : Prop := 2 ^ k ≤ u ∧ u < 2 ^ (k + 1)
theorem tpB_sh {k u s : Nat} (h : tpB k (u / 2 ^ s)) : tpB (k + s) u := by
  obtain ⟨a, b⟩ := h
  have hp := Nat.two_pow_pos s
  refine ⟨?_, ?_⟩
  · rw [Nat.pow_add]; exact (Nat.le_div_iff_mul_le hp).mp a
  · rw [show k + s + 1 = (k + 1) + s by omega, Nat.pow_add]; exact (Nat.div_lt_iff_lt_mul hp).mp b
theorem tpB_1 {u : Nat} (h0 : 0 < u) (h1 : u < 4) : tpB (u / 2) u := by
  have : u = 1 ∨ u = 2 ∨ u = 3 := by omega
  unfold tpB
  rcases this with rfl | rfl | rfl <;> decide
theorem us_l {u : Nat} (hu : u < 2 ^ 31) : iushr (u : Int) 1 = ((u / 2 : Nat) : Int) ∧ iushr (u : Int) 2 = ((u / 2 ^ 2 : Nat) : Int) ∧ iushr (u : Int) 4 = ((u / 2 ^ 4 : Nat) : Int) ∧ iushr (u : Int) 8 = ((u / 2 ^ 8 : Nat) : Int) ∧ iushr (u : Int) 16 = ((u / 2 ^ 16 : Nat) : Int) := by
  have k : ∀ i : Nat, i < 32 → iushr (u : Int) (i : Int) = ((u / 2 ^ i : Nat) : Int) := fun i hi => by rw [iushr_n hi hu, Nat.shiftRight_eq_div_pow]
  refine ⟨?_, k 2 (by omega), k 4 (by omega), k 8 (by omega), k 16 (by omega)⟩
  exact k 1 (by omega)
theorem nlz_73 (lv u i : Nat) (h : Hp) (h0 : 0 < u) (h1 : u < 4) (hi : i < 64) (hi3 : 1 ≤ i) : ∃ k, k ≤ 1 ∧ tpB k u ∧ run lv 313 73 [aI (u : Int), aI (i : Int)] [] h = ri ((i : Int) - (k : Int)) h := by
  refine ⟨u / 2, by omega, tpB_1 h0 h1, ?_⟩
  have e := (us_l (u := u) (by omega)).1
  simp (disch := omega) only [x_4_0, x_72, x_69, x_1, x_60, x_61, x_82, x_7_1_I, x_7_1_A, x_7_1_U, x_64, x_10_1_I, x_10_1_A, x_10_1_U, x_22, x_7_0, x_4_1, x_12, u_313_0, u_313_13, u_313_14, u_313_15, u_313_33, u_313_48, u_313_61, u_313_73, e, Int.reduceEq, Int.reduceLT, Int.reduceLE, reduceIte, Int.reduceAdd, Int.reduceSub, Int.reduceMul, Int.reduceNeg, Int.reduceToNat, Bool.false_eq_true, eq_self, if_pos, if_neg, w32_id]
theorem nlz_61 (lv u i : Nat) (h : Hp) (h0 : 0 < u) (h1 : u < 16) (hi : i < 64) (hi3 : 3 ≤ i) : ∃ k, k ≤ 3 ∧ tpB k u ∧ run lv 313 61 [aI (u : Int), aI (i : Int)] [] h = ri ((i : Int) - (k : Int)) h := by
  by_cases c : u < 4
  · obtain ⟨k, a, b, e⟩ := nlz_73 lv u i h h0 c hi (by omega)
    refine ⟨k, by omega, b, ?_⟩
    rw [← e]
    simp (disch := omega) only [x_4_0, x_72, x_69, x_1, x_60, x_61, x_82, x_7_1_I, x_7_1_A, x_7_1_U, x_64, x_10_1_I, x_10_1_A, x_10_1_U, x_22, x_7_0, x_4_1, x_12, u_313_0, u_313_13, u_313_14, u_313_15, u_313_33, u_313_48, u_313_61, Int.reduceEq, Int.reduceLT, Int.reduceLE, reduceIte, Int.reduceAdd, Int.reduceSub, Int.reduceMul, Int.reduceNeg, Int.reduceToNat, Bool.false_eq_true, eq_self, if_pos, if_neg]
  · obtain ⟨k, a, b, e⟩ := nlz_73 lv (u / 2 ^ 2) (i - 2) h (by omega) (by omega) (by omega) (by omega)
    refine ⟨k + 2, by omega, tpB_sh b, ?_⟩
    have e2 := (us_l (u := u) (by omega)).2.1
    have e3 : ((i : Int) + -2) = ((i - 2 : Nat) : Int) := by omega
    simp (disch := omega) only [x_4_0, x_72, x_69, x_1, x_60, x_61, x_82, x_7_1_I, x_7_1_A, x_7_1_U, x_64, x_10_1_I, x_10_1_A, x_10_1_U, x_22, x_7_0, x_4_1, x_12, u_313_0, u_313_13, u_313_14, u_313_15, u_313_33, u_313_48, u_313_61, e2, w32_id, Int.reduceEq, Int.reduceLT, Int.reduceLE, reduceIte, Int.reduceAdd, Int.reduceSub, Int.reduceMul, Int.reduceNeg, Int.reduceToNat, Bool.false_eq_true, eq_self, if_pos, if_neg]
    rw [e3, e]
    exact ri_e (by omega)
theorem nlz_48 (lv u i : Nat) (h : Hp) (h0 : 0 < u) (h1 : u < 256) (hi : i < 64) (hi3 : 7 ≤ i) : ∃ k, k ≤ 7 ∧ tpB k u ∧ run lv 313 48 [aI (u : Int), aI (i : Int)] [] h = ri ((i : Int) - (k : Int)) h := by
  by_cases c : u < 16
  · obtain ⟨k, a, b, e⟩ := nlz_61 lv u i h h0 c hi (by omega)
    refine ⟨k, by omega, b, ?_⟩
    rw [← e]
    simp (disch := omega) only [x_4_0, x_72, x_69, x_1, x_60, x_61, x_82, x_7_1_I, x_7_1_A, x_7_1_U, x_64, x_10_1_I, x_10_1_A, x_10_1_U, x_22, x_7_0, x_4_1, x_12, u_313_0, u_313_13, u_313_14, u_313_15, u_313_33, u_313_48, Int.reduceEq, Int.reduceLT, Int.reduceLE, reduceIte, Int.reduceAdd, Int.reduceSub, Int.reduceMul, Int.reduceNeg, Int.reduceToNat, Bool.false_eq_true, eq_self, if_pos, if_neg]
  · obtain ⟨k, a, b, e⟩ := nlz_61 lv (u / 2 ^ 4) (i - 4) h (by omega) (by omega) (by omega) (by omega)
    refine ⟨k + 4, by omega, tpB_sh b, ?_⟩
    have e2 := (us_l (u := u) (by omega)).2.2.1
    have e3 : ((i : Int) + -4) = ((i - 4 : Nat) : Int) := by omega
    simp (disch := omega) only [x_4_0, x_72, x_69, x_1, x_60, x_61, x_82, x_7_1_I, x_7_1_A, x_7_1_U, x_64, x_10_1_I, x_10_1_A, x_10_1_U, x_22, x_7_0, x_4_1, x_12, u_313_0, u_313_13, u_313_14, u_313_15, u_313_33, u_313_48, e2, w32_id, Int.reduceEq, Int.reduceLT, Int.reduceLE, reduceIte, Int.reduceAdd, Int.reduceSub, Int.reduceMul, Int.reduceNeg, Int.reduceToNat, Bool.false_eq_true, eq_self, if_pos, if_neg]
    rw [e3, e]
    exact ri_e (by omega)
theorem nlz_33 (lv u i : Nat) (h : Hp) (h0 : 0 < u) (h1 : u < 65536) (hi : i < 64) (hi3 : 15 ≤ i) : ∃ k, k ≤ 15 ∧ tpB k u ∧ run lv 313 33 [aI (u : Int), aI (i : Int)] [] h = ri ((i : Int) - (k : Int)) h := by
  by_cases c : u < 256
  · obtain ⟨k, a, b, e⟩ := nlz_48 lv u i h h0 c hi (by omega)
    refine ⟨k, by omega, b, ?_⟩
    rw [← e]
    simp (disch := omega) only [x_4_0, x_72, x_69, x_1, x_60, x_61, x_82, x_7_1_I, x_7_1_A, x_7_1_U, x_64, x_10_1_I, x_10_1_A, x_10_1_U, x_22, x_7_0, x_4_1, x_12, u_313_0, u_313_13, u_313_14, u_313_15, u_313_33, Int.reduceEq, Int.reduceLT, Int.reduceLE, reduceIte, Int.reduceAdd, Int.reduceSub, Int.reduceMul, Int.reduceNeg, Int.reduceToNat, Bool.false_eq_true, eq_self, if_pos, if_neg]
  · obtain ⟨k, a, b, e⟩ := nlz_48 lv (u / 2 ^ 8) (i - 8) h (by omega) (by omega) (by omega) (by omega)
    refine ⟨k + 8, by omega, tpB_sh b, ?_⟩
    have e2 := (us_l (u := u) (by omega)).2.2.2.1
    have e3 : ((i : Int) + -8) = ((i - 8 : Nat) : Int) := by omega
    simp (disch := omega) only [x_4_0, x_72, x_69, x_1, x_60, x_61, x_82, x_7_1_I, x_7_1_A, x_7_1_U, x_64, x_10_1_I, x_10_1_A, x_10_1_U, x_22, x_7_0, x_4_1, x_12, u_313_0, u_313_13, u_313_14, u_313_15, u_313_33, e2, w32_id, Int.reduceEq, Int.reduceLT, Int.reduceLE, reduceIte, Int.reduceAdd, Int.reduceSub, Int.reduceMul, Int.reduceNeg, Int.reduceToNat, Bool.false_eq_true, eq_self, if_pos, if_neg]
    rw [e3, e]
    exact ri_e (by omega)
theorem nlz_p (lv u : Nat) (h : Hp) (h0 : 0 < u) (h1 : u < 2 ^ 31) : ∃ k, k ≤ 31 ∧ tpB k u ∧ cl (lv + 1) 313 [aI (u : Int)] h = ri (31 - (k : Int)) h := by
  by_cases c : u < 65536
  · obtain ⟨k, a, b, e⟩ := nlz_33 lv u 31 h h0 c (by omega) (by omega)
    refine ⟨k, by omega, b, ?_⟩
    rw [in_313]
    simp (disch := omega) only [x_4_0, x_72, x_69, x_1, x_60, x_61, x_82, x_7_1_I, x_7_1_A, x_7_1_U, x_64, x_10_1_I, x_10_1_A, x_10_1_U, x_22, x_7_0, x_4_1, x_12, u_313_0, u_313_13, u_313_14, u_313_15, Int.reduceEq, Int.reduceLT, Int.reduceLE, reduceIte, Int.reduceAdd, Int.reduceSub, Int.reduceMul, Int.reduceNeg, Int.reduceToNat, Bool.false_eq_true, eq_self, if_pos, if_neg]
    exact e
  · obtain ⟨k, a, b, e⟩ := nlz_33 lv (u / 2 ^ 16) 15 h (by omega) (by omega) (by omega) (by omega)
    refine ⟨k + 16, by omega, tpB_sh b, ?_⟩
    have e2 := (us_l (u := u) (by omega)).2.2.2.2
    rw [in_313]
    simp (disch := omega) only [x_4_0, x_72, x_69, x_1, x_60, x_61, x_82, x_7_1_I, x_7_1_A, x_7_1_U, x_64, x_10_1_I, x_10_1_A, x_10_1_U, x_22, x_7_0, x_4_1, x_12, u_313_0, u_313_13, u_313_14, u_313_15, e2, w32_id, Int.reduceEq, Int.reduceLT, Int.reduceLE, reduceIte, Int.reduceAdd, Int.reduceSub, Int.reduceMul, Int.reduceNeg, Int.reduceToNat, Bool.false_eq_true, eq_self, if_pos, if_neg]
    refine Eq.trans e ?_
    exact ri_e (by omega)
/-- any 32 bits but none -/
theorem nlz_i (lv u : Nat) (h : Hp) (h0 : 0 < u) (h1 : u < 2 ^ 32) : ∃ k, k ≤ 31 ∧ tpB k u ∧ cl (lv + 1) 313 [aI (w32 (u : Int))] h = ri (31 - (k : Int)) h := by
  by_cases c : u < 2 ^ 31
  · rw [w32_id (by omega) (by omega)]
    exact nlz_p lv u h h0 c
  · refine ⟨31, by omega, ⟨by omega, by omega⟩, ?_⟩
    have e : w32 (u : Int) = (u : Int) - 4294967296 := by unfold w32; omega
    rw [e, in_313]
    simp (disch := omega) only [x_4_0, x_72, x_69, x_1, x_60, x_61, x_82, x_7_1_I, x_7_1_A, x_7_1_U, x_64, x_10_1_I, x_10_1_A, x_10_1_U, x_22, x_7_0, x_4_1, x_12, u_313_0, u_313_13, u_313_14, u_313_15, u_313_33, u_313_48, u_313_61, u_313_73, Int.reduceEq, Int.reduceLT, Int.reduceLE, reduceIte, Int.reduceAdd, Int.reduceSub, Int.reduceMul, Int.reduceNeg, Int.reduceToNat, Bool.false_eq_true, eq_self, if_pos, if_neg]
    rfl
theorem kJ_w (a : Nat) : w32 (kJ a) = w32 (a : Int) := by
  unfold kJ w32
  rw [BitVec.toInt_eq_toNat_cond, BitVec.toNat_ofNat]
  split <;> omega
theorem kJ_e0 {a : Nat} (ha : a < 2 ^ 64) : kJ a = 0 ↔ a = 0 := by
  unfold kJ
  rw [BitVec.toInt_eq_toNat_cond, BitVec.toNat_ofNat, Nat.mod_eq_of_lt ha]
  split <;> omega
theorem kJ_inj {a b : Nat} (ha : a < 2 ^ 64) (hb : b < 2 ^ 64) (e : kJ a = kJ b) : a = b := by
  unfold kJ at e
  rw [BitVec.toInt_eq_toNat_cond, BitVec.toNat_ofNat, Nat.mod_eq_of_lt ha, BitVec.toInt_eq_toNat_cond, BitVec.toNat_ofNat, Nat.mod_eq_of_lt hb] at e
  split at e <;> split at e <;> omega
theorem nlz_c (lv a : Nat) (h : Hp) (h0 : 0 < a) (h1 : a < 2 ^ 64) : ∃ k, k ≤ 63 ∧ tpB k a ∧ cl (lv + 2) 316 [aJ (kJ a)] h = ri (63 - (k : Int)) h := by
  have e1 : jushr (kJ a) 32 = kJ (a / 2 ^ 32) := by
    have := jushr_k h1 (show 32 < 64 by omega)
    rw [Nat.shiftRight_eq_div_pow] at this
    exact this
  have e2 : w32 (kJ (a / 2 ^ 32)) = w32 ((a / 2 ^ 32 : Nat) : Int) := kJ_w _
  have e3 : w32 (kJ a) = w32 ((a % 2 ^ 32 : Nat) : Int) := by rw [kJ_w]; unfold w32; omega
  rw [in_316]
  by_cases c : a / 2 ^ 32 = 0
  · obtain ⟨k, x, y, e⟩ := nlz_i lv (a % 2 ^ 32) h (by omega) (by omega)
    rw [show a % 2 ^ 32 = a by omega] at e e3 y
    refine ⟨k, by omega, y, ?_⟩
    have z : w32 ((0 : Nat) : Int) = 0 := by decide
    rw [c] at e1 e2
    rw [z] at e2
    simp (disch := omega) only [x_5_0, x_1, x_31, x_24, x_7_2_I, x_7_2_A, x_7_2_U, x_4_2, x_69, x_80_1_d0, x_80_1_d1, x_80_1_d2, x_80_1_d3, x_80_1_d4, x_11, x_60, x_61, x_82, cb_ri, cb_rl, cb_rv, cb_th, cb_ite, ps_s, ps_n, u_316_0, u_316_21, u_316_25, e1, e2, e3, e, Int.reduceEq, Int.reduceLT, Int.reduceLE, reduceIte, Int.reduceAdd, Int.reduceSub, Int.reduceMul, Int.reduceNeg, Int.reduceToNat, Bool.false_eq_true, eq_self, if_pos, if_neg, w32_id]
    exact ri_e (by omega)
  · obtain ⟨k, x, y, e⟩ := nlz_i lv (a / 2 ^ 32) h (by omega) (by omega)
    refine ⟨k + 32, by omega, tpB_sh y, ?_⟩
    have z : ¬ w32 ((a / 2 ^ 32 : Nat) : Int) = 0 := by unfold w32; omega
    generalize w32 ((a / 2 ^ 32 : Nat) : Int) = q at *
    simp (disch := omega) only [x_5_0, x_1, x_31, x_24, x_7_2_I, x_7_2_A, x_7_2_U, x_4_2, x_69, x_80_1_d0, x_80_1_d1, x_80_1_d2, x_80_1_d3, x_80_1_d4, x_11, x_60, x_61, x_82, cb_ri, cb_rl, cb_rv, cb_th, cb_ite, ps_s, ps_n, u_316_0, u_316_21, u_316_25, e1, e2, e, z, Int.reduceEq, Int.reduceLT, Int.reduceLE, reduceIte, Int.reduceAdd, Int.reduceSub, Int.reduceMul, Int.reduceNeg, Int.reduceToNat, Bool.false_eq_true, eq_self, if_pos, if_neg]
    exact ri_e (by omega)
theorem highest_c (lv a : Nat) (h : Hp) (h0 : 0 < a) (h1 : a < 2 ^ 64) : ∃ k, k ≤ 63 ∧ tpB k a ∧ cl (lv + 3) 158 [aJ (kJ a)] h = ri (k : Int) h := by
  obtain ⟨k, x, y, e⟩ := nlz_c lv a h h0 h1
  refine ⟨k, x, y, ?_⟩
  rw [in_158]
  simp (disch := omega) only [x_1, x_5_0, x_80_1_d0, x_80_1_d1, x_80_1_d2, x_80_1_d3, x_80_1_d4, x_12, x_82, cb_ri, cb_rl, cb_rv, cb_th, cb_ite, ps_s, ps_n, u_158_0, e, Int.reduceEq, Int.reduceLT, Int.reduceLE, reduceIte, Int.reduceAdd, Int.reduceSub, Int.reduceMul, Int.reduceNeg, Int.reduceToNat, Bool.false_eq_true, eq_self, if_pos, if_neg, w32_id]
  exact ri_e (by omega)
theorem tpB_bit {k a : Nat} (h : tpB k a) : a.testBit k = true ∧ ∀ j, k < j → a.testBit j = false :=
  ⟨Nat.testBit_of_two_pow_le_and_two_pow_add_one_gt h.1 h.2, fun j hj => Nat.testBit_lt_two_pow (Nat.lt_of_lt_of_le h.2 (Nat.pow_le_pow_right (by omega) (by omega)))⟩
