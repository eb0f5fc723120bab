/-- what the reference has gathered of the law -/
def mL (h : Hp) (A B : Bool) (g : Int) : Hp := hset (hset (hset h 203 0 0 (boI A)) 204 0 0 (boI B)) 202 0 0 g
theorem mL_203 (h : Hp) (A B A' : Bool) (g : Int) (a : Nat) : hset (RD (mL h A B g) a) 203 0 0 (boI A') = RD (mL h A' B g) a := by
  funext tt k i
  unfold RD RZ mL hset
  by_cases c1 : tt = 203 ∧ k = 0 ∧ i = 0
  · simp [c1]
  · simp [c1]
theorem mL_204 (h : Hp) (A B B' : Bool) (g : Int) (a : Nat) : hset (RD (mL h A B g) a) 204 0 0 (boI B') = RD (mL h A B' g) a := by
  funext tt k i
  unfold RD RZ mL hset
  by_cases c1 : tt = 204 ∧ k = 0 ∧ i = 0
  · simp [c1]
  · simp [c1]
theorem mL_202 (h : Hp) (A B : Bool) (g g' : Int) (a : Nat) : hset (RD (mL h A B g) a) 202 0 0 g' = RD (mL h A B g') a := by
  funext tt k i
  unfold RD RZ mL hset
  by_cases c1 : tt = 202 ∧ k = 0 ∧ i = 0
  · simp [c1]
  · simp [c1]
theorem mL_v (h : Hp) (A B : Bool) (g : Int) (a : Nat) : RD (mL h A B g) a 203 0 0 = boI A ∧ RD (mL h A B g) a 204 0 0 = boI B ∧ RD (mL h A B g) a 202 0 0 = g := by
  unfold RD RZ mL hset; simp
theorem mfin_m (lv : Nat) (h : Hp) (A B c : Bool) (g k v : Int) (a : Nat) (hk : k = 0 ∨ k = 1 ∨ k = 2) (hv : 0 ≤ v ∧ v ≤ 40) (hg : -1000 ≤ g ∧ g ≤ 1000) : run lv 209 112 [aA 12 0, aI k, aI v, aI (boI c)] [] (RD (mL h A B g) a) = rv (RD (mL h (A || decide (k = 2)) (B || (c && decide (k = 2))) (g + if c = true then (if k = 0 then v else if k = 1 then -v else 0) else 0)) a) := by
  have b1 : (1 : Int) = boI true := rfl
  have b0 : (0 : Int) = boI false := rfl
  have i1 := fun A' => mL_203 h A B A' g a
  have e1 := mL_v h A B g a
  have o1 := boI_b A
  have o2 := boI_b B
  -- has a take line been seen
  have s1 : run lv 209 112 [aA 12 0, aI k, aI v, aI (boI c)] [] (RD (mL h A B g) a) = run lv 209 130 [aA 12 0, aI k, aI v, aI (boI c)] [aI (boI (A || decide (k = 2))), aA 12 0] (RD (mL h A B g) a) := by
    cases A with
    | true =>
      have e2 : RD (mL h true B g) a 203 0 0 = 1 := e1.1
      simp (disch := omega) only [x_6_0, x_3, x_79_2_12_d0, x_79_2_12_d1, x_79_2_12_d2, x_79_2_12_d3, x_79_2_12_d4, x_68, x_1, x_60, x_61, x_7_1_I, x_7_1_A, x_7_1_U, x_4_1, x_63, x_33, x_83, x_79_3_12_d0, x_79_3_12_d1, x_79_3_12_d2, x_79_3_12_d3, x_79_3_12_d4, x_7_2_I, x_7_2_A, x_7_2_U, x_62, x_79_1_12_d0, x_79_1_12_d1, x_79_1_12_d2, x_79_1_12_d3, x_79_1_12_d4, x_7_3_I, x_7_3_A, x_7_3_U, x_69, x_37, x_4_3, x_47_I, x_47_A, x_4_2, x_16, x_11, x_36, cb_ri, cb_rl, cb_rv, cb_th, cb_ite, ps_s, ps_n, u_209_0, u_209_13, u_209_26, u_209_39, u_209_40, u_209_55, u_209_64, u_209_71, u_209_81, u_209_97, u_209_101, u_209_102, u_209_112, u_209_125, u_209_129, u_209_138, u_209_151, u_209_155, u_209_156, u_209_172, u_209_182, u_209_183, e2, Bool.true_or, boI, Int.reduceEq, Int.reduceLT, Int.reduceLE, reduceIte, Int.reduceAdd, Int.reduceSub, Int.reduceMul, Int.reduceNeg, Int.reduceToNat, Bool.false_eq_true, eq_self, if_pos, if_neg]
    | false =>
      have e2 : RD (mL h false B g) a 203 0 0 = 0 := e1.1
      rcases hk with hk | hk | hk <;> subst hk
      · simp (disch := omega) only [x_6_0, x_3, x_79_2_12_d0, x_79_2_12_d1, x_79_2_12_d2, x_79_2_12_d3, x_79_2_12_d4, x_68, x_1, x_60, x_61, x_7_1_I, x_7_1_A, x_7_1_U, x_4_1, x_63, x_33, x_83, x_79_3_12_d0, x_79_3_12_d1, x_79_3_12_d2, x_79_3_12_d3, x_79_3_12_d4, x_7_2_I, x_7_2_A, x_7_2_U, x_62, x_79_1_12_d0, x_79_1_12_d1, x_79_1_12_d2, x_79_1_12_d3, x_79_1_12_d4, x_7_3_I, x_7_3_A, x_7_3_U, x_69, x_37, x_4_3, x_47_I, x_47_A, x_4_2, x_16, x_11, x_36, cb_ri, cb_rl, cb_rv, cb_th, cb_ite, ps_s, ps_n, u_209_0, u_209_13, u_209_26, u_209_39, u_209_40, u_209_55, u_209_64, u_209_71, u_209_81, u_209_97, u_209_101, u_209_102, u_209_112, u_209_125, u_209_129, u_209_138, u_209_151, u_209_155, u_209_156, u_209_172, u_209_182, u_209_183, e2, Bool.false_or, boI, decide_false, decide_true, Int.reduceEq, Int.reduceLT, Int.reduceLE, reduceIte, Int.reduceAdd, Int.reduceSub, Int.reduceMul, Int.reduceNeg, Int.reduceToNat, Bool.false_eq_true, eq_self, if_pos, if_neg]
      · simp (disch := omega) only [x_6_0, x_3, x_79_2_12_d0, x_79_2_12_d1, x_79_2_12_d2, x_79_2_12_d3, x_79_2_12_d4, x_68, x_1, x_60, x_61, x_7_1_I, x_7_1_A, x_7_1_U, x_4_1, x_63, x_33, x_83, x_79_3_12_d0, x_79_3_12_d1, x_79_3_12_d2, x_79_3_12_d3, x_79_3_12_d4, x_7_2_I, x_7_2_A, x_7_2_U, x_62, x_79_1_12_d0, x_79_1_12_d1, x_79_1_12_d2, x_79_1_12_d3, x_79_1_12_d4, x_7_3_I, x_7_3_A, x_7_3_U, x_69, x_37, x_4_3, x_47_I, x_47_A, x_4_2, x_16, x_11, x_36, cb_ri, cb_rl, cb_rv, cb_th, cb_ite, ps_s, ps_n, u_209_0, u_209_13, u_209_26, u_209_39, u_209_40, u_209_55, u_209_64, u_209_71, u_209_81, u_209_97, u_209_101, u_209_102, u_209_112, u_209_125, u_209_129, u_209_138, u_209_151, u_209_155, u_209_156, u_209_172, u_209_182, u_209_183, e2, Bool.false_or, boI, decide_false, decide_true, Int.reduceEq, Int.reduceLT, Int.reduceLE, reduceIte, Int.reduceAdd, Int.reduceSub, Int.reduceMul, Int.reduceNeg, Int.reduceToNat, Bool.false_eq_true, eq_self, if_pos, if_neg]
      · simp (disch := omega) only [x_6_0, x_3, x_79_2_12_d0, x_79_2_12_d1, x_79_2_12_d2, x_79_2_12_d3, x_79_2_12_d4, x_68, x_1, x_60, x_61, x_7_1_I, x_7_1_A, x_7_1_U, x_4_1, x_63, x_33, x_83, x_79_3_12_d0, x_79_3_12_d1, x_79_3_12_d2, x_79_3_12_d3, x_79_3_12_d4, x_7_2_I, x_7_2_A, x_7_2_U, x_62, x_79_1_12_d0, x_79_1_12_d1, x_79_1_12_d2, x_79_1_12_d3, x_79_1_12_d4, x_7_3_I, x_7_3_A, x_7_3_U, x_69, x_37, x_4_3, x_47_I, x_47_A, x_4_2, x_16, x_11, x_36, cb_ri, cb_rl, cb_rv, cb_th, cb_ite, ps_s, ps_n, u_209_0, u_209_13, u_209_26, u_209_39, u_209_40, u_209_55, u_209_64, u_209_71, u_209_81, u_209_97, u_209_101, u_209_102, u_209_112, u_209_125, u_209_129, u_209_138, u_209_151, u_209_155, u_209_156, u_209_172, u_209_182, u_209_183, e2, Bool.false_or, boI, decide_false, decide_true, Int.reduceEq, Int.reduceLT, Int.reduceLE, reduceIte, Int.reduceAdd, Int.reduceSub, Int.reduceMul, Int.reduceNeg, Int.reduceToNat, Bool.false_eq_true, eq_self, if_pos, if_neg]
  rw [s1]
  generalize (A || decide (k = 2)) = A'
  have o3 := boI_b A'
  have e3 := mL_v h A' B g a
  cases c with
  | false =>
    have z : (boI false) = 0 := rfl
    simp (disch := omega) only [x_6_0, x_3, x_79_2_12_d0, x_79_2_12_d1, x_79_2_12_d2, x_79_2_12_d3, x_79_2_12_d4, x_68, x_1, x_60, x_61, x_7_1_I, x_7_1_A, x_7_1_U, x_4_1, x_63, x_33, x_83, x_79_3_12_d0, x_79_3_12_d1, x_79_3_12_d2, x_79_3_12_d3, x_79_3_12_d4, x_7_2_I, x_7_2_A, x_7_2_U, x_62, x_79_1_12_d0, x_79_1_12_d1, x_79_1_12_d2, x_79_1_12_d3, x_79_1_12_d4, x_7_3_I, x_7_3_A, x_7_3_U, x_69, x_37, x_4_3, x_47_I, x_47_A, x_4_2, x_16, x_11, x_36, cb_ri, cb_rl, cb_rv, cb_th, cb_ite, ps_s, ps_n, u_209_0, u_209_13, u_209_26, u_209_39, u_209_40, u_209_55, u_209_64, u_209_71, u_209_81, u_209_97, u_209_101, u_209_102, u_209_112, u_209_125, u_209_129, u_209_130, u_209_138, u_209_151, u_209_155, u_209_156, u_209_172, u_209_182, u_209_183, i1, z, Bool.false_and, Bool.or_false, Bool.false_eq_true, if_false, Int.add_zero, Int.reduceEq, Int.reduceLT, Int.reduceLE, reduceIte, Int.reduceAdd, Int.reduceSub, Int.reduceMul, Int.reduceNeg, Int.reduceToNat, Bool.false_eq_true, eq_self, if_pos, if_neg]
  | true =>
    have z : (boI true) = 1 := rfl
    have s2 : run lv 209 130 [aA 12 0, aI k, aI v, aI (boI true)] [aI (boI A'), aA 12 0] (RD (mL h A B g) a) = run lv 209 156 [aA 12 0, aI k, aI v, aI 1] [aI (boI (B || decide (k = 2))), aA 12 0] (RD (mL h A' B g) a) := by
      cases B with
      | true =>
        have e2 : RD (mL h A' true g) a 204 0 0 = 1 := e3.2.1
        simp (disch := omega) only [x_6_0, x_3, x_79_2_12_d0, x_79_2_12_d1, x_79_2_12_d2, x_79_2_12_d3, x_79_2_12_d4, x_68, x_1, x_60, x_61, x_7_1_I, x_7_1_A, x_7_1_U, x_4_1, x_63, x_33, x_83, x_79_3_12_d0, x_79_3_12_d1, x_79_3_12_d2, x_79_3_12_d3, x_79_3_12_d4, x_7_2_I, x_7_2_A, x_7_2_U, x_62, x_79_1_12_d0, x_79_1_12_d1, x_79_1_12_d2, x_79_1_12_d3, x_79_1_12_d4, x_7_3_I, x_7_3_A, x_7_3_U, x_69, x_37, x_4_3, x_47_I, x_47_A, x_4_2, x_16, x_11, x_36, cb_ri, cb_rl, cb_rv, cb_th, cb_ite, ps_s, ps_n, u_209_0, u_209_13, u_209_26, u_209_39, u_209_40, u_209_55, u_209_64, u_209_71, u_209_81, u_209_97, u_209_101, u_209_102, u_209_112, u_209_125, u_209_129, u_209_130, u_209_138, u_209_151, u_209_155, u_209_172, u_209_182, u_209_183, i1, z, e2, Bool.true_or, Int.reduceEq, Int.reduceLT, Int.reduceLE, reduceIte, Int.reduceAdd, Int.reduceSub, Int.reduceMul, Int.reduceNeg, Int.reduceToNat, Bool.false_eq_true, eq_self, if_pos, if_neg]
      | false =>
        have e2 : RD (mL h A' false g) a 204 0 0 = 0 := e3.2.1
        rcases hk with hk | hk | hk <;> subst hk
        · simp (disch := omega) only [x_6_0, x_3, x_79_2_12_d0, x_79_2_12_d1, x_79_2_12_d2, x_79_2_12_d3, x_79_2_12_d4, x_68, x_1, x_60, x_61, x_7_1_I, x_7_1_A, x_7_1_U, x_4_1, x_63, x_33, x_83, x_79_3_12_d0, x_79_3_12_d1, x_79_3_12_d2, x_79_3_12_d3, x_79_3_12_d4, x_7_2_I, x_7_2_A, x_7_2_U, x_62, x_79_1_12_d0, x_79_1_12_d1, x_79_1_12_d2, x_79_1_12_d3, x_79_1_12_d4, x_7_3_I, x_7_3_A, x_7_3_U, x_69, x_37, x_4_3, x_47_I, x_47_A, x_4_2, x_16, x_11, x_36, cb_ri, cb_rl, cb_rv, cb_th, cb_ite, ps_s, ps_n, u_209_0, u_209_13, u_209_26, u_209_39, u_209_40, u_209_55, u_209_64, u_209_71, u_209_81, u_209_97, u_209_101, u_209_102, u_209_112, u_209_125, u_209_129, u_209_130, u_209_138, u_209_151, u_209_155, u_209_172, u_209_182, u_209_183, i1, z, e2, Bool.false_or, decide_false, decide_true, Int.reduceEq, Int.reduceLT, Int.reduceLE, reduceIte, Int.reduceAdd, Int.reduceSub, Int.reduceMul, Int.reduceNeg, Int.reduceToNat, Bool.false_eq_true, eq_self, if_pos, if_neg]
          rfl
        · simp (disch := omega) only [x_6_0, x_3, x_79_2_12_d0, x_79_2_12_d1, x_79_2_12_d2, x_79_2_12_d3, x_79_2_12_d4, x_68, x_1, x_60, x_61, x_7_1_I, x_7_1_A, x_7_1_U, x_4_1, x_63, x_33, x_83, x_79_3_12_d0, x_79_3_12_d1, x_79_3_12_d2, x_79_3_12_d3, x_79_3_12_d4, x_7_2_I, x_7_2_A, x_7_2_U, x_62, x_79_1_12_d0, x_79_1_12_d1, x_79_1_12_d2, x_79_1_12_d3, x_79_1_12_d4, x_7_3_I, x_7_3_A, x_7_3_U, x_69, x_37, x_4_3, x_47_I, x_47_A, x_4_2, x_16, x_11, x_36, cb_ri, cb_rl, cb_rv, cb_th, cb_ite, ps_s, ps_n, u_209_0, u_209_13, u_209_26, u_209_39, u_209_40, u_209_55, u_209_64, u_209_71, u_209_81, u_209_97, u_209_101, u_209_102, u_209_112, u_209_125, u_209_129, u_209_130, u_209_138, u_209_151, u_209_155, u_209_172, u_209_182, u_209_183, i1, z, e2, Bool.false_or, decide_false, decide_true, Int.reduceEq, Int.reduceLT, Int.reduceLE, reduceIte, Int.reduceAdd, Int.reduceSub, Int.reduceMul, Int.reduceNeg, Int.reduceToNat, Bool.false_eq_true, eq_self, if_pos, if_neg]
          rfl
        · simp (disch := omega) only [x_6_0, x_3, x_79_2_12_d0, x_79_2_12_d1, x_79_2_12_d2, x_79_2_12_d3, x_79_2_12_d4, x_68, x_1, x_60, x_61, x_7_1_I, x_7_1_A, x_7_1_U, x_4_1, x_63, x_33, x_83, x_79_3_12_d0, x_79_3_12_d1, x_79_3_12_d2, x_79_3_12_d3, x_79_3_12_d4, x_7_2_I, x_7_2_A, x_7_2_U, x_62, x_79_1_12_d0, x_79_1_12_d1, x_79_1_12_d2, x_79_1_12_d3, x_79_1_12_d4, x_7_3_I, x_7_3_A, x_7_3_U, x_69, x_37, x_4_3, x_47_I, x_47_A, x_4_2, x_16, x_11, x_36, cb_ri, cb_rl, cb_rv, cb_th, cb_ite, ps_s, ps_n, u_209_0, u_209_13, u_209_26, u_209_39, u_209_40, u_209_55, u_209_64, u_209_71, u_209_81, u_209_97, u_209_101, u_209_102, u_209_112, u_209_125, u_209_129, u_209_130, u_209_138, u_209_151, u_209_155, u_209_172, u_209_182, u_209_183, i1, z, e2, Bool.false_or, decide_false, decide_true, Int.reduceEq, Int.reduceLT, Int.reduceLE, reduceIte, Int.reduceAdd, Int.reduceSub, Int.reduceMul, Int.reduceNeg, Int.reduceToNat, Bool.false_eq_true, eq_self, if_pos, if_neg]
    rw [s2, Bool.true_and]
    generalize (B || decide (k = 2)) = B'
    have o4 := boI_b B'
    have i2 := mL_204 h A' B B' g a
    have e4 := (mL_v h A' B' g a).2.2
    have i3 := fun g' => mL_202 h A' B' g g' a
    rcases hk with hk | hk | hk <;> subst hk
    · simp (disch := omega) only [x_6_0, x_3, x_79_2_12_d0, x_79_2_12_d1, x_79_2_12_d2, x_79_2_12_d3, x_79_2_12_d4, x_68, x_1, x_60, x_61, x_7_1_I, x_7_1_A, x_7_1_U, x_4_1, x_63, x_33, x_83, x_79_3_12_d0, x_79_3_12_d1, x_79_3_12_d2, x_79_3_12_d3, x_79_3_12_d4, x_7_2_I, x_7_2_A, x_7_2_U, x_62, x_79_1_12_d0, x_79_1_12_d1, x_79_1_12_d2, x_79_1_12_d3, x_79_1_12_d4, x_7_3_I, x_7_3_A, x_7_3_U, x_69, x_37, x_4_3, x_47_I, x_47_A, x_4_2, x_16, x_11, x_36, cb_ri, cb_rl, cb_rv, cb_th, cb_ite, ps_s, ps_n, u_209_0, u_209_13, u_209_26, u_209_39, u_209_40, u_209_55, u_209_64, u_209_71, u_209_81, u_209_97, u_209_101, u_209_102, u_209_112, u_209_125, u_209_129, u_209_130, u_209_138, u_209_151, u_209_155, u_209_156, u_209_172, u_209_182, u_209_183, i2, e4, i3, w32_id, Int.reduceEq, Int.reduceLT, Int.reduceLE, reduceIte, Int.reduceAdd, Int.reduceSub, Int.reduceMul, Int.reduceNeg, Int.reduceToNat, Bool.false_eq_true, eq_self, if_pos, if_neg]
    · simp (disch := omega) only [x_6_0, x_3, x_79_2_12_d0, x_79_2_12_d1, x_79_2_12_d2, x_79_2_12_d3, x_79_2_12_d4, x_68, x_1, x_60, x_61, x_7_1_I, x_7_1_A, x_7_1_U, x_4_1, x_63, x_33, x_83, x_79_3_12_d0, x_79_3_12_d1, x_79_3_12_d2, x_79_3_12_d3, x_79_3_12_d4, x_7_2_I, x_7_2_A, x_7_2_U, x_62, x_79_1_12_d0, x_79_1_12_d1, x_79_1_12_d2, x_79_1_12_d3, x_79_1_12_d4, x_7_3_I, x_7_3_A, x_7_3_U, x_69, x_37, x_4_3, x_47_I, x_47_A, x_4_2, x_16, x_11, x_36, cb_ri, cb_rl, cb_rv, cb_th, cb_ite, ps_s, ps_n, u_209_0, u_209_13, u_209_26, u_209_39, u_209_40, u_209_55, u_209_64, u_209_71, u_209_81, u_209_97, u_209_101, u_209_102, u_209_112, u_209_125, u_209_129, u_209_130, u_209_138, u_209_151, u_209_155, u_209_156, u_209_172, u_209_182, u_209_183, i2, e4, i3, w32_id, Int.reduceEq, Int.reduceLT, Int.reduceLE, reduceIte, Int.reduceAdd, Int.reduceSub, Int.reduceMul, Int.reduceNeg, Int.reduceToNat, Bool.false_eq_true, eq_self, if_pos, if_neg]
    · simp (disch := omega) only [x_6_0, x_3, x_79_2_12_d0, x_79_2_12_d1, x_79_2_12_d2, x_79_2_12_d3, x_79_2_12_d4, x_68, x_1, x_60, x_61, x_7_1_I, x_7_1_A, x_7_1_U, x_4_1, x_63, x_33, x_83, x_79_3_12_d0, x_79_3_12_d1, x_79_3_12_d2, x_79_3_12_d3, x_79_3_12_d4, x_7_2_I, x_7_2_A, x_7_2_U, x_62, x_79_1_12_d0, x_79_1_12_d1, x_79_1_12_d2, x_79_1_12_d3, x_79_1_12_d4, x_7_3_I, x_7_3_A, x_7_3_U, x_69, x_37, x_4_3, x_47_I, x_47_A, x_4_2, x_16, x_11, x_36, cb_ri, cb_rl, cb_rv, cb_th, cb_ite, ps_s, ps_n, u_209_0, u_209_13, u_209_26, u_209_39, u_209_40, u_209_55, u_209_64, u_209_71, u_209_81, u_209_97, u_209_101, u_209_102, u_209_112, u_209_125, u_209_129, u_209_130, u_209_138, u_209_151, u_209_155, u_209_156, u_209_172, u_209_182, u_209_183, i2, e4, i3, w32_id, Int.reduceEq, Int.reduceLT, Int.reduceLE, reduceIte, Int.reduceAdd, Int.reduceSub, Int.reduceMul, Int.reduceNeg, Int.reduceToNat, Bool.false_eq_true, eq_self, if_pos, if_neg]
