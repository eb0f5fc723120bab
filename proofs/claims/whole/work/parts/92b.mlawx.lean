/-! THE REFERENCE READS A LAW, whatever it had gathered before. -/
theorem mfin_x (lv : Nat) (h : Hp) (A B c : Bool) (g k v : Int) (a : Nat) (hk : k = 0 ∨ k = 1 ∨ k = 2) (hv : 0 ≤ v ∧ v ≤ 40) : ∃ A2 B2 g2, run lv 209 112 [aA 12 0, aI k, aI v, aI (boI c)] [] (RD (mL h A B g) a) = rv (RD (mL h A2 B2 g2) a) := by
  have b1 : (1 : Int) = boI true := rfl
  have b0 : (0 : Int) = boI false := rfl
  have i1 := fun A' => mL_203 h A B A' g a
  have e1 := mL_v h A B g a
  have o1 := boI_b A
  have o2 := boI_b B
  -- has a take line been seen
  have s1 : run lv 209 112 [aA 12 0, aI k, aI v, aI (boI c)] [] (RD (mL h A B g) a) = run lv 209 130 [aA 12 0, aI k, aI v, aI (boI c)] [aI (boI (A || decide (k = 2))), aA 12 0] (RD (mL h A B g) a) := by
    cases A with
    | true =>
      have e2 : RD (mL h true B g) a 203 0 0 = 1 := e1.1
      simp (disch := omega) only [x_6_0, x_3, x_79_2_12_d0, x_79_2_12_d1, x_79_2_12_d2, x_79_2_12_d3, x_79_2_12_d4, x_68, x_1, x_60, x_61, x_7_1_I, x_7_1_A, x_7_1_U, x_4_1, x_63, x_33, x_83, x_79_3_12_d0, x_79_3_12_d1, x_79_3_12_d2, x_79_3_12_d3, x_79_3_12_d4, x_7_2_I, x_7_2_A, x_7_2_U, x_62, x_79_1_12_d0, x_79_1_12_d1, x_79_1_12_d2, x_79_1_12_d3, x_79_1_12_d4, x_7_3_I, x_7_3_A, x_7_3_U, x_69, x_37, x_4_3, x_47_I, x_47_A, x_4_2, x_16, x_11, x_36, cb_ri, cb_rl, cb_rv, cb_th, cb_ite, ps_s, ps_n, u_209_0, u_209_13, u_209_26, u_209_39, u_209_40, u_209_55, u_209_64, u_209_71, u_209_81, u_209_97, u_209_101, u_209_102, u_209_112, u_209_125, u_209_129, u_209_138, u_209_151, u_209_155, u_209_156, u_209_172, u_209_182, u_209_183, e2, Bool.true_or, boI, Int.reduceEq, Int.reduceLT, Int.reduceLE, reduceIte, Int.reduceAdd, Int.reduceSub, Int.reduceMul, Int.reduceNeg, Int.reduceToNat, Bool.false_eq_true, eq_self, if_pos, if_neg]
    | false =>
      have e2 : RD (mL h false B g) a 203 0 0 = 0 := e1.1
      rcases hk with hk | hk | hk <;> subst hk
      · simp (disch := omega) only [x_6_0, x_3, x_79_2_12_d0, x_79_2_12_d1, x_79_2_12_d2, x_79_2_12_d3, x_79_2_12_d4, x_68, x_1, x_60, x_61, x_7_1_I, x_7_1_A, x_7_1_U, x_4_1, x_63, x_33, x_83, x_79_3_12_d0, x_79_3_12_d1, x_79_3_12_d2, x_79_3_12_d3, x_79_3_12_d4, x_7_2_I, x_7_2_A, x_7_2_U, x_62, x_79_1_12_d0, x_79_1_12_d1, x_79_1_12_d2, x_79_1_12_d3, x_79_1_12_d4, x_7_3_I, x_7_3_A, x_7_3_U, x_69, x_37, x_4_3, x_47_I, x_47_A, x_4_2, x_16, x_11, x_36, cb_ri, cb_rl, cb_rv, cb_th, cb_ite, ps_s, ps_n, u_209_0, u_209_13, u_209_26, u_209_39, u_209_40, u_209_55, u_209_64, u_209_71, u_209_81, u_209_97, u_209_101, u_209_102, u_209_112, u_209_125, u_209_129, u_209_138, u_209_151, u_209_155, u_209_156, u_209_172, u_209_182, u_209_183, e2, Bool.false_or, boI, decide_false, decide_true, Int.reduceEq, Int.reduceLT, Int.reduceLE, reduceIte, Int.reduceAdd, Int.reduceSub, Int.reduceMul, Int.reduceNeg, Int.reduceToNat, Bool.false_eq_true, eq_self, if_pos, if_neg]
      · simp (disch := omega) only [x_6_0, x_3, x_79_2_12_d0, x_79_2_12_d1, x_79_2_12_d2, x_79_2_12_d3, x_79_2_12_d4, x_68, x_1, x_60, x_61, x_7_1_I, x_7_1_A, x_7_1_U, x_4_1, x_63, x_33, x_83, x_79_3_12_d0, x_79_3_12_d1, x_79_3_12_d2, x_79_3_12_d3, x_79_3_12_d4, x_7_2_I, x_7_2_A, x_7_2_U, x_62, x_79_1_12_d0, x_79_1_12_d1, x_79_1_12_d2, x_79_1_12_d3, x_79_1_12_d4, x_7_3_I, x_7_3_A, x_7_3_U, x_69, x_37, x_4_3, x_47_I, x_47_A, x_4_2, x_16, x_11, x_36, cb_ri, cb_rl, cb_rv, cb_th, cb_ite, ps_s, ps_n, u_209_0, u_209_13, u_209_26, u_209_39, u_209_40, u_209_55, u_209_64, u_209_71, u_209_81, u_209_97, u_209_101, u_209_102, u_209_112, u_209_125, u_209_129, u_209_138, u_209_151, u_209_155, u_209_156, u_209_172, u_209_182, u_209_183, e2, Bool.false_or, boI, decide_false, decide_true, Int.reduceEq, Int.reduceLT, Int.reduceLE, reduceIte, Int.reduceAdd, Int.reduceSub, Int.reduceMul, Int.reduceNeg, Int.reduceToNat, Bool.false_eq_true, eq_self, if_pos, if_neg]
      · simp (disch := omega) only [x_6_0, x_3, x_79_2_12_d0, x_79_2_12_d1, x_79_2_12_d2, x_79_2_12_d3, x_79_2_12_d4, x_68, x_1, x_60, x_61, x_7_1_I, x_7_1_A, x_7_1_U, x_4_1, x_63, x_33, x_83, x_79_3_12_d0, x_79_3_12_d1, x_79_3_12_d2, x_79_3_12_d3, x_79_3_12_d4, x_7_2_I, x_7_2_A, x_7_2_U, x_62, x_79_1_12_d0, x_79_1_12_d1, x_79_1_12_d2, x_79_1_12_d3, x_79_1_12_d4, x_7_3_I, x_7_3_A, x_7_3_U, x_69, x_37, x_4_3, x_47_I, x_47_A, x_4_2, x_16, x_11, x_36, cb_ri, cb_rl, cb_rv, cb_th, cb_ite, ps_s, ps_n, u_209_0, u_209_13, u_209_26, u_209_39, u_209_40, u_209_55, u_209_64, u_209_71, u_209_81, u_209_97, u_209_101, u_209_102, u_209_112, u_209_125, u_209_129, u_209_138, u_209_151, u_209_155, u_209_156, u_209_172, u_209_182, u_209_183, e2, Bool.false_or, boI, decide_false, decide_true, Int.reduceEq, Int.reduceLT, Int.reduceLE, reduceIte, Int.reduceAdd, Int.reduceSub, Int.reduceMul, Int.reduceNeg, Int.reduceToNat, Bool.false_eq_true, eq_self, if_pos, if_neg]
  rw [s1]
  generalize (A || decide (k = 2)) = A'
  have o3 := boI_b A'
  have e3 := mL_v h A' B g a
  cases c with
  | false =>
    have z : (boI false) = 0 := rfl
    refine ⟨A', B, g, ?_⟩
    simp (disch := omega) only [x_6_0, x_3, x_79_2_12_d0, x_79_2_12_d1, x_79_2_12_d2, x_79_2_12_d3, x_79_2_12_d4, x_68, x_1, x_60, x_61, x_7_1_I, x_7_1_A, x_7_1_U, x_4_1, x_63, x_33, x_83, x_79_3_12_d0, x_79_3_12_d1, x_79_3_12_d2, x_79_3_12_d3, x_79_3_12_d4, x_7_2_I, x_7_2_A, x_7_2_U, x_62, x_79_1_12_d0, x_79_1_12_d1, x_79_1_12_d2, x_79_1_12_d3, x_79_1_12_d4, x_7_3_I, x_7_3_A, x_7_3_U, x_69, x_37, x_4_3, x_47_I, x_47_A, x_4_2, x_16, x_11, x_36, cb_ri, cb_rl, cb_rv, cb_th, cb_ite, ps_s, ps_n, u_209_0, u_209_13, u_209_26, u_209_39, u_209_40, u_209_55, u_209_64, u_209_71, u_209_81, u_209_97, u_209_101, u_209_102, u_209_112, u_209_125, u_209_129, u_209_130, u_209_138, u_209_151, u_209_155, u_209_156, u_209_172, u_209_182, u_209_183, i1, z, Bool.false_and, Bool.or_false, Bool.false_eq_true, if_false, Int.add_zero, Int.reduceEq, Int.reduceLT, Int.reduceLE, reduceIte, Int.reduceAdd, Int.reduceSub, Int.reduceMul, Int.reduceNeg, Int.reduceToNat, Bool.false_eq_true, eq_self, if_pos, if_neg]
  | true =>
    have z : (boI true) = 1 := rfl
    have s2 : run lv 209 130 [aA 12 0, aI k, aI v, aI (boI true)] [aI (boI A'), aA 12 0] (RD (mL h A B g) a) = run lv 209 156 [aA 12 0, aI k, aI v, aI 1] [aI (boI (B || decide (k = 2))), aA 12 0] (RD (mL h A' B g) a) := by
      cases B with
      | true =>
        have e2 : RD (mL h A' true g) a 204 0 0 = 1 := e3.2.1
        simp (disch := omega) only [x_6_0, x_3, x_79_2_12_d0, x_79_2_12_d1, x_79_2_12_d2, x_79_2_12_d3, x_79_2_12_d4, x_68, x_1, x_60, x_61, x_7_1_I, x_7_1_A, x_7_1_U, x_4_1, x_63, x_33, x_83, x_79_3_12_d0, x_79_3_12_d1, x_79_3_12_d2, x_79_3_12_d3, x_79_3_12_d4, x_7_2_I, x_7_2_A, x_7_2_U, x_62, x_79_1_12_d0, x_79_1_12_d1, x_79_1_12_d2, x_79_1_12_d3, x_79_1_12_d4, x_7_3_I, x_7_3_A, x_7_3_U, x_69, x_37, x_4_3, x_47_I, x_47_A, x_4_2, x_16, x_11, x_36, cb_ri, cb_rl, cb_rv, cb_th, cb_ite, ps_s, ps_n, u_209_0, u_209_13, u_209_26, u_209_39, u_209_40, u_209_55, u_209_64, u_209_71, u_209_81, u_209_97, u_209_101, u_209_102, u_209_112, u_209_125, u_209_129, u_209_130, u_209_138, u_209_151, u_209_155, u_209_172, u_209_182, u_209_183, i1, z, e2, Bool.true_or, Int.reduceEq, Int.reduceLT, Int.reduceLE, reduceIte, Int.reduceAdd, Int.reduceSub, Int.reduceMul, Int.reduceNeg, Int.reduceToNat, Bool.false_eq_true, eq_self, if_pos, if_neg]
      | false =>
        have e2 : RD (mL h A' false g) a 204 0 0 = 0 := e3.2.1
        rcases hk with hk | hk | hk <;> subst hk
        · simp (disch := omega) only [x_6_0, x_3, x_79_2_12_d0, x_79_2_12_d1, x_79_2_12_d2, x_79_2_12_d3, x_79_2_12_d4, x_68, x_1, x_60, x_61, x_7_1_I, x_7_1_A, x_7_1_U, x_4_1, x_63, x_33, x_83, x_79_3_12_d0, x_79_3_12_d1, x_79_3_12_d2, x_79_3_12_d3, x_79_3_12_d4, x_7_2_I, x_7_2_A, x_7_2_U, x_62, x_79_1_12_d0, x_79_1_12_d1, x_79_1_12_d2, x_79_1_12_d3, x_79_1_12_d4, x_7_3_I, x_7_3_A, x_7_3_U, x_69, x_37, x_4_3, x_47_I, x_47_A, x_4_2, x_16, x_11, x_36, cb_ri, cb_rl, cb_rv, cb_th, cb_ite, ps_s, ps_n, u_209_0, u_209_13, u_209_26, u_209_39, u_209_40, u_209_55, u_209_64, u_209_71, u_209_81, u_209_97, u_209_101, u_209_102, u_209_112, u_209_125, u_209_129, u_209_130, u_209_138, u_209_151, u_209_155, u_209_172, u_209_182, u_209_183, i1, z, e2, Bool.false_or, decide_false, decide_true, Int.reduceEq, Int.reduceLT, Int.reduceLE, reduceIte, Int.reduceAdd, Int.reduceSub, Int.reduceMul, Int.reduceNeg, Int.reduceToNat, Bool.false_eq_true, eq_self, if_pos, if_neg]
          rfl
        · simp (disch := omega) only [x_6_0, x_3, x_79_2_12_d0, x_79_2_12_d1, x_79_2_12_d2, x_79_2_12_d3, x_79_2_12_d4, x_68, x_1, x_60, x_61, x_7_1_I, x_7_1_A, x_7_1_U, x_4_1, x_63, x_33, x_83, x_79_3_12_d0, x_79_3_12_d1, x_79_3_12_d2, x_79_3_12_d3, x_79_3_12_d4, x_7_2_I, x_7_2_A, x_7_2_U, x_62, x_79_1_12_d0, x_79_1_12_d1, x_79_1_12_d2, x_79_1_12_d3, x_79_1_12_d4, x_7_3_I, x_7_3_A, x_7_3_U, x_69, x_37, x_4_3, x_47_I, x_47_A, x_4_2, x_16, x_11, x_36, cb_ri, cb_rl, cb_rv, cb_th, cb_ite, ps_s, ps_n, u_209_0, u_209_13, u_209_26, u_209_39, u_209_40, u_209_55, u_209_64, u_209_71, u_209_81, u_209_97, u_209_101, u_209_102, u_209_112, u_209_125, u_209_129, u_209_130, u_209_138, u_209_151, u_209_155, u_209_172, u_209_182, u_209_183, i1, z, e2, Bool.false_or, decide_false, decide_true, Int.reduceEq, Int.reduceLT, Int.reduceLE, reduceIte, Int.reduceAdd, Int.reduceSub, Int.reduceMul, Int.reduceNeg, Int.reduceToNat, Bool.false_eq_true, eq_self, if_pos, if_neg]
          rfl
        · simp (disch := omega) only [x_6_0, x_3, x_79_2_12_d0, x_79_2_12_d1, x_79_2_12_d2, x_79_2_12_d3, x_79_2_12_d4, x_68, x_1, x_60, x_61, x_7_1_I, x_7_1_A, x_7_1_U, x_4_1, x_63, x_33, x_83, x_79_3_12_d0, x_79_3_12_d1, x_79_3_12_d2, x_79_3_12_d3, x_79_3_12_d4, x_7_2_I, x_7_2_A, x_7_2_U, x_62, x_79_1_12_d0, x_79_1_12_d1, x_79_1_12_d2, x_79_1_12_d3, x_79_1_12_d4, x_7_3_I, x_7_3_A, x_7_3_U, x_69, x_37, x_4_3, x_47_I, x_47_A, x_4_2, x_16, x_11, x_36, cb_ri, cb_rl, cb_rv, cb_th, cb_ite, ps_s, ps_n, u_209_0, u_209_13, u_209_26, u_209_39, u_209_40, u_209_55, u_209_64, u_209_71, u_209_81, u_209_97, u_209_101, u_209_102, u_209_112, u_209_125, u_209_129, u_209_130, u_209_138, u_209_151, u_209_155, u_209_172, u_209_182, u_209_183, i1, z, e2, Bool.false_or, decide_false, decide_true, Int.reduceEq, Int.reduceLT, Int.reduceLE, reduceIte, Int.reduceAdd, Int.reduceSub, Int.reduceMul, Int.reduceNeg, Int.reduceToNat, Bool.false_eq_true, eq_self, if_pos, if_neg]
    rw [s2]
    generalize (B || decide (k = 2)) = B'
    have o4 := boI_b B'
    have i2 := mL_204 h A' B B' g a
    have e4 := (mL_v h A' B' g a).2.2
    have i3 := fun g' => mL_202 h A' B' g g' a
    rcases hk with hk | hk | hk <;> subst hk
    · refine ⟨A', B', w32 (g + v), ?_⟩
      simp (disch := omega) only [x_6_0, x_3, x_79_2_12_d0, x_79_2_12_d1, x_79_2_12_d2, x_79_2_12_d3, x_79_2_12_d4, x_68, x_1, x_60, x_61, x_7_1_I, x_7_1_A, x_7_1_U, x_4_1, x_63, x_33, x_83, x_79_3_12_d0, x_79_3_12_d1, x_79_3_12_d2, x_79_3_12_d3, x_79_3_12_d4, x_7_2_I, x_7_2_A, x_7_2_U, x_62, x_79_1_12_d0, x_79_1_12_d1, x_79_1_12_d2, x_79_1_12_d3, x_79_1_12_d4, x_7_3_I, x_7_3_A, x_7_3_U, x_69, x_37, x_4_3, x_47_I, x_47_A, x_4_2, x_16, x_11, x_36, cb_ri, cb_rl, cb_rv, cb_th, cb_ite, ps_s, ps_n, u_209_0, u_209_13, u_209_26, u_209_39, u_209_40, u_209_55, u_209_64, u_209_71, u_209_81, u_209_97, u_209_101, u_209_102, u_209_112, u_209_125, u_209_129, u_209_130, u_209_138, u_209_151, u_209_155, u_209_156, u_209_172, u_209_182, u_209_183, i2, e4, i3, Int.reduceEq, Int.reduceLT, Int.reduceLE, reduceIte, Int.reduceAdd, Int.reduceSub, Int.reduceMul, Int.reduceNeg, Int.reduceToNat, Bool.false_eq_true, eq_self, if_pos, if_neg]
    · refine ⟨A', B', w32 (g + w32 (-v)), ?_⟩
      simp (disch := omega) only [x_6_0, x_3, x_79_2_12_d0, x_79_2_12_d1, x_79_2_12_d2, x_79_2_12_d3, x_79_2_12_d4, x_68, x_1, x_60, x_61, x_7_1_I, x_7_1_A, x_7_1_U, x_4_1, x_63, x_33, x_83, x_79_3_12_d0, x_79_3_12_d1, x_79_3_12_d2, x_79_3_12_d3, x_79_3_12_d4, x_7_2_I, x_7_2_A, x_7_2_U, x_62, x_79_1_12_d0, x_79_1_12_d1, x_79_1_12_d2, x_79_1_12_d3, x_79_1_12_d4, x_7_3_I, x_7_3_A, x_7_3_U, x_69, x_37, x_4_3, x_47_I, x_47_A, x_4_2, x_16, x_11, x_36, cb_ri, cb_rl, cb_rv, cb_th, cb_ite, ps_s, ps_n, u_209_0, u_209_13, u_209_26, u_209_39, u_209_40, u_209_55, u_209_64, u_209_71, u_209_81, u_209_97, u_209_101, u_209_102, u_209_112, u_209_125, u_209_129, u_209_130, u_209_138, u_209_151, u_209_155, u_209_156, u_209_172, u_209_182, u_209_183, i2, e4, i3, Int.reduceEq, Int.reduceLT, Int.reduceLE, reduceIte, Int.reduceAdd, Int.reduceSub, Int.reduceMul, Int.reduceNeg, Int.reduceToNat, Bool.false_eq_true, eq_self, if_pos, if_neg]
    · refine ⟨A', B', w32 (g + 0), ?_⟩
      simp (disch := omega) only [x_6_0, x_3, x_79_2_12_d0, x_79_2_12_d1, x_79_2_12_d2, x_79_2_12_d3, x_79_2_12_d4, x_68, x_1, x_60, x_61, x_7_1_I, x_7_1_A, x_7_1_U, x_4_1, x_63, x_33, x_83, x_79_3_12_d0, x_79_3_12_d1, x_79_3_12_d2, x_79_3_12_d3, x_79_3_12_d4, x_7_2_I, x_7_2_A, x_7_2_U, x_62, x_79_1_12_d0, x_79_1_12_d1, x_79_1_12_d2, x_79_1_12_d3, x_79_1_12_d4, x_7_3_I, x_7_3_A, x_7_3_U, x_69, x_37, x_4_3, x_47_I, x_47_A, x_4_2, x_16, x_11, x_36, cb_ri, cb_rl, cb_rv, cb_th, cb_ite, ps_s, ps_n, u_209_0, u_209_13, u_209_26, u_209_39, u_209_40, u_209_55, u_209_64, u_209_71, u_209_81, u_209_97, u_209_101, u_209_102, u_209_112, u_209_125, u_209_129, u_209_130, u_209_138, u_209_151, u_209_155, u_209_156, u_209_172, u_209_182, u_209_183, i2, e4, i3, Int.reduceEq, Int.reduceLT, Int.reduceLE, reduceIte, Int.reduceAdd, Int.reduceSub, Int.reduceMul, Int.reduceNeg, Int.reduceToNat, Bool.false_eq_true, eq_self, if_pos, if_neg]
theorem mline_x (lv : Nat) {h : Hp} {t : Nat → Int} {e a : Nat} {F : Nat → Int} (A B : Bool) (g : Int) (T : TX h t e) (ha : a ≤ e) (hf : h 198 0 0 = -1) (hF : FC h F) (hO : FZ F) (hD : h 199 0 0 = 0) : match pLine t e (sk t e a) with
    | .inl f => ∃ z, (0 ≤ z ∧ z ≤ (e : Int) + 6) ∧ cl (lv + 30) 209 [aA 12 0] (RD (mL h A B g) a) = rv (hset (RZ (mL h A B g) z) 198 0 0 (f : Int))
    | .inr (x, q) => ∃ a' A2 B2 g2, a' ≤ e ∧ sk t e a' = q ∧ cl (lv + 30) 209 [aA 12 0] (RD (mL h A B g) a) = rv (RD (mL h A2 B2 g2) a') := by
  have T' : TX (mL h A B g) t e := mL_TX T
  have hF' : FC (mL h A B g) F := mL_FC hF
  have hf' : mL h A B g 198 0 0 = -1 := by rw [mL_o (by omega)]; exact hf
  have hD' : mL h A B g 199 0 0 = 0 := by rw [mL_o (by omega)]; exact hD
  have hfa : ∀ x, RD (mL h A B g) x 198 0 0 = -1 := fun x => by rw [RD_o (by omega)]; exact hf'
  have mk := mkind_m (lv + 24) T' ha
  have hb := sk_b t ha
  rw [mk]
  generalize sk t e a = p at hb
  unfold pLine
  by_cases hk : knd t e p = -1
  · rw [if_pos hk, if_pos hk, hk]
    have e1 := RD_a (mL h A B g) p
    have wr := wrong_m (lv + 28) (RD (mL h A B g) p) (p : Int) (hfa p)
    refine ⟨(p : Int), by omega, ?_⟩
    show _ = rv (hset (RD (mL h A B g) p) 198 0 0 _)
    simp (disch := omega) only [x_6_0, x_3, x_79_2_12_d0, x_79_2_12_d1, x_79_2_12_d2, x_79_2_12_d3, x_79_2_12_d4, x_68, x_1, x_60, x_61, x_7_1_I, x_7_1_A, x_7_1_U, x_4_1, x_63, x_33, x_83, x_79_3_12_d0, x_79_3_12_d1, x_79_3_12_d2, x_79_3_12_d3, x_79_3_12_d4, x_7_2_I, x_7_2_A, x_7_2_U, x_62, x_79_1_12_d0, x_79_1_12_d1, x_79_1_12_d2, x_79_1_12_d3, x_79_1_12_d4, x_7_3_I, x_7_3_A, x_7_3_U, x_69, x_37, x_4_3, x_47_I, x_47_A, x_4_2, x_16, x_11, x_36, cb_ri, cb_rl, cb_rv, cb_th, cb_ite, ps_s, ps_n, u_209_0, u_209_13, u_209_26, u_209_39, u_209_40, u_209_55, u_209_64, u_209_71, u_209_81, u_209_97, u_209_101, u_209_102, u_209_112, u_209_125, u_209_129, u_209_130, u_209_138, u_209_151, u_209_155, u_209_156, u_209_172, u_209_182, u_209_183, e1, wr, Int.reduceEq, Int.reduceLT, Int.reduceLE, reduceIte, Int.reduceAdd, Int.reduceSub, Int.reduceMul, Int.reduceNeg, Int.reduceToNat, Bool.false_eq_true, eq_self, if_pos, if_neg]
  rw [if_neg hk, if_neg hk]
  obtain ⟨kv, k1, k2⟩ := knd_v hb.2 hk
  by_cases h2 : knd t e p = 2
  · simp only [h2, if_pos]
    have mc := mcond_m lv (a := wE t e p) T' k2 hf' hF' hO hD' 2 0
    rw [k1] at mc
    have f1 := hfa (wE t e p)
    have st : run (lv + 24 + 5) 209 40 [aA 12 0, none, none, none] [aI 2] (RD (mL h A B g) (wE t e p)) = run (lv + 29) 209 81 [aA 12 0, aI 2, aI 0, none] [] (RD (mL h A B g) (wE t e p)) := by
      simp (disch := omega) only [x_6_0, x_3, x_79_2_12_d0, x_79_2_12_d1, x_79_2_12_d2, x_79_2_12_d3, x_79_2_12_d4, x_68, x_1, x_60, x_61, x_7_1_I, x_7_1_A, x_7_1_U, x_4_1, x_63, x_33, x_83, x_79_3_12_d0, x_79_3_12_d1, x_79_3_12_d2, x_79_3_12_d3, x_79_3_12_d4, x_7_2_I, x_7_2_A, x_7_2_U, x_62, x_79_1_12_d0, x_79_1_12_d1, x_79_1_12_d2, x_79_1_12_d3, x_79_1_12_d4, x_7_3_I, x_7_3_A, x_7_3_U, x_69, x_37, x_4_3, x_47_I, x_47_A, x_4_2, x_16, x_11, x_36, cb_ri, cb_rl, cb_rv, cb_th, cb_ite, ps_s, ps_n, u_209_0, u_209_13, u_209_26, u_209_39, u_209_40, u_209_55, u_209_64, u_209_71, u_209_97, u_209_101, u_209_102, u_209_112, u_209_125, u_209_129, u_209_130, u_209_138, u_209_151, u_209_155, u_209_156, u_209_172, u_209_182, u_209_183, f1, Int.reduceEq, Int.reduceLT, Int.reduceLE, reduceIte, Int.reduceAdd, Int.reduceSub, Int.reduceMul, Int.reduceNeg, Int.reduceToNat, Bool.false_eq_true, eq_self, if_pos, if_neg]
    rw [st]
    cases hc : pCond t e (nxt t e p) with
    | inl f => rw [hc] at mc; exact mc
    | inr z =>
      obtain ⟨b, r⟩ := z
      rw [hc] at mc
      obtain ⟨a2, n1, n2, mc⟩ := mc
      obtain ⟨A2, B2, g2, mf⟩ := mfin_x (lv + 29) h A B (b.2 F) g 2 0 a2 (by omega) (by omega)
      exact ⟨a2, A2, B2, g2, n1, n2, by rw [mc, mf]⟩
  · simp only [h2, if_false]
    have fg := figs_m (lv + 25) 0 40 T' k2 hf'
    rw [k1] at fg
    have hm := nxt_le t hb.2
    have f1 := hfa (wE t e p)
    unfold pNum
    by_cases c : (nxt t e p < dE t e (nxt t e p) ∧ dE t e (nxt t e p) ≤ nxt t e p + 3) ∧ nv t (nxt t e p) (dE t e (nxt t e p) - nxt t e p) ≤ 40
    · have hv := nu_b (t := t) hm c.1.1 c.1.2
      rw [if_pos ⟨c.1, hv.1, c.2⟩] at fg
      rw [if_pos c]
      have q := isD_sk hm c.1.1
      have c40 := c.2
      generalize nv t (nxt t e p) (dE t e (nxt t e p) - nxt t e p) = v at fg hv c40
      dsimp only
      have mc := mcond_m lv (a := dE t e (nxt t e p)) T' q.2.1 hf' hF' hO hD' (knd t e p) v
      rw [q.1] at mc
      have f2 := hfa (dE t e (nxt t e p))
      have st : run (lv + 24 + 5) 209 40 [aA 12 0, none, none, none] [aI (knd t e p)] (RD (mL h A B g) (wE t e p)) = run (lv + 29) 209 81 [aA 12 0, aI (knd t e p), aI v, none] [] (RD (mL h A B g) (dE t e (nxt t e p))) := by
        simp (disch := omega) only [x_6_0, x_3, x_79_2_12_d0, x_79_2_12_d1, x_79_2_12_d2, x_79_2_12_d3, x_79_2_12_d4, x_68, x_1, x_60, x_61, x_7_1_I, x_7_1_A, x_7_1_U, x_4_1, x_63, x_33, x_83, x_79_3_12_d0, x_79_3_12_d1, x_79_3_12_d2, x_79_3_12_d3, x_79_3_12_d4, x_7_2_I, x_7_2_A, x_7_2_U, x_62, x_79_1_12_d0, x_79_1_12_d1, x_79_1_12_d2, x_79_1_12_d3, x_79_1_12_d4, x_7_3_I, x_7_3_A, x_7_3_U, x_69, x_37, x_4_3, x_47_I, x_47_A, x_4_2, x_16, x_11, x_36, cb_ri, cb_rl, cb_rv, cb_th, cb_ite, ps_s, ps_n, u_209_0, u_209_13, u_209_26, u_209_39, u_209_40, u_209_55, u_209_64, u_209_71, u_209_97, u_209_101, u_209_102, u_209_112, u_209_125, u_209_129, u_209_130, u_209_138, u_209_151, u_209_155, u_209_156, u_209_172, u_209_182, u_209_183, fg, f2, Int.reduceEq, Int.reduceLT, Int.reduceLE, reduceIte, Int.reduceAdd, Int.reduceSub, Int.reduceMul, Int.reduceNeg, Int.reduceToNat, Bool.false_eq_true, eq_self, if_pos, if_neg]
      rw [st]
      cases hc : pCond t e (nxt t e (nxt t e p)) with
      | inl f => rw [hc] at mc; exact mc
      | inr z =>
        obtain ⟨b, r⟩ := z
        rw [hc] at mc
        obtain ⟨a2, n1, n2, mc⟩ := mc
        obtain ⟨A2, B2, g2, mf⟩ := mfin_x (lv + 29) h A B (b.2 F) g (knd t e p) v a2 kv (by omega)
        exact ⟨a2, A2, B2, g2, n1, n2, by rw [mc, mf]⟩
    · rw [if_neg (fun z => c ⟨z.1, z.2.2⟩)] at fg
      rw [if_neg c]
      obtain ⟨x, z, hz, fg⟩ := fg
      refine ⟨z, by omega, ?_⟩
      have ef : hset (RZ (mL h A B g) z) 198 0 0 ((nxt t e p : Nat) : Int) 198 0 0 = ((nxt t e p : Nat) : Int) := hs_eq _ _ _ _ _
      simp (disch := omega) only [x_6_0, x_3, x_79_2_12_d0, x_79_2_12_d1, x_79_2_12_d2, x_79_2_12_d3, x_79_2_12_d4, x_68, x_1, x_60, x_61, x_7_1_I, x_7_1_A, x_7_1_U, x_4_1, x_63, x_33, x_83, x_79_3_12_d0, x_79_3_12_d1, x_79_3_12_d2, x_79_3_12_d3, x_79_3_12_d4, x_7_2_I, x_7_2_A, x_7_2_U, x_62, x_79_1_12_d0, x_79_1_12_d1, x_79_1_12_d2, x_79_1_12_d3, x_79_1_12_d4, x_7_3_I, x_7_3_A, x_7_3_U, x_69, x_37, x_4_3, x_47_I, x_47_A, x_4_2, x_16, x_11, x_36, cb_ri, cb_rl, cb_rv, cb_th, cb_ite, ps_s, ps_n, u_209_0, u_209_13, u_209_26, u_209_39, u_209_40, u_209_55, u_209_64, u_209_71, u_209_81, u_209_97, u_209_101, u_209_102, u_209_112, u_209_125, u_209_129, u_209_130, u_209_138, u_209_151, u_209_155, u_209_156, u_209_172, u_209_182, u_209_183, fg, ef, Int.reduceEq, Int.reduceLT, Int.reduceLE, reduceIte, Int.reduceAdd, Int.reduceSub, Int.reduceMul, Int.reduceNeg, Int.reduceToNat, Bool.false_eq_true, eq_self, if_pos, if_neg]
theorem mread_y (lv : Nat) {h : Hp} {t : Nat → Int} {e : Nat} {F : Nat → Int} (T : TX h t e) (hf : h 198 0 0 = -1) (hF : FC h F) (hO : FZ F) (hD : h 199 0 0 = 0) : ∀ (n : Nat) (L : List LN) (a : Nat) (A B : Bool) (g : Int), a ≤ e → L.length + n = 12 → match pLaw t e n L (sk t e a) with
    | .inl f => ∃ v z A2 B2 g2, run (lv + 30) 199 23 [aA 12 0, aI 1, aI 1, aI (L.length : Int)] [] (RD (mL h A B g) a) = ri v (hset (RZ (mL h A2 B2 g2) z) 198 0 0 (f : Int))
    | .inr L' => ∃ A2 B2 g2, run (lv + 30) 199 23 [aA 12 0, aI 1, aI 1, aI (L.length : Int)] [] (RD (mL h A B g) a) = ri (L'.length : Int) (RD (mL h A2 B2 g2) e) := by
  intro n
  induction n with
  | zero =>
    intro L a A B g ha hn
    have T' : TX (mL h A B g) t e := mL_TX T
    have sm := skip_m (lv + 28) T' ha
    have hfa : ∀ x, RD (mL h A B g) x 198 0 0 = -1 := fun x => by rw [RD_o (by omega), mL_o (by omega)]; exact hf
    have f1 := hfa a
    generalize sk t e a = p at sm
    have e1 := RD_a (mL h A B g) p
    have wr := wrong_m (lv + 29) (RD (mL h A B g) p) (p : Int) (hfa p)
    obtain ⟨y, sz⟩ := skip_z (lv + 28) T' (p : Int) (p : Int) (by omega)
    have wr : _ = rv (hset (RZ (mL h A B g) (p : Int)) 198 0 0 (p : Int)) := wr
    have ef : hset (RZ (mL h A B g) y) 198 0 0 (p : Int) 198 0 0 = (p : Int) := hs_eq _ _ _ _ _
    refine ⟨((L.length : Int) + 1), y, A, B, g, ?_⟩
    rw [hd_199_23]
    simp (disch := omega) only [x_6_0, x_79_1_12_d0, x_79_1_12_d1, x_79_1_12_d2, x_79_1_12_d3, x_79_1_12_d4, x_33, x_65, x_1, x_60, x_61, x_7_2_I, x_7_2_A, x_7_2_U, x_7_3_I, x_7_3_A, x_7_3_U, x_4_2, x_68, x_63, x_4_3, x_4_1, x_79_2_12_d0, x_79_2_12_d1, x_79_2_12_d2, x_79_2_12_d3, x_79_2_12_d4, x_10_3_I, x_10_3_A, x_10_3_U, x_47_I, x_47_A, x_11, x_36, x_82, cb_ri, cb_rl, cb_rv, cb_th, cb_ite, ps_s, ps_n, u_199_0, u_199_19, u_199_20, u_199_49, u_199_51, u_199_65, u_199_76, u_199_80, u_199_106, u_199_111, u_199_133, u_199_144, f1, sm, e1, wr, sz, ef, w32_id, Int.reduceEq, Int.reduceLT, Int.reduceLE, reduceIte, Int.reduceAdd, Int.reduceSub, Int.reduceMul, Int.reduceNeg, Int.reduceToNat, Bool.false_eq_true, eq_self, if_pos, if_neg]
    rw [hd_199_23]
    simp (disch := omega) only [x_6_0, x_79_1_12_d0, x_79_1_12_d1, x_79_1_12_d2, x_79_1_12_d3, x_79_1_12_d4, x_33, x_65, x_1, x_60, x_61, x_7_2_I, x_7_2_A, x_7_2_U, x_7_3_I, x_7_3_A, x_7_3_U, x_4_2, x_68, x_63, x_4_3, x_4_1, x_79_2_12_d0, x_79_2_12_d1, x_79_2_12_d2, x_79_2_12_d3, x_79_2_12_d4, x_10_3_I, x_10_3_A, x_10_3_U, x_47_I, x_47_A, x_11, x_36, x_82, cb_ri, cb_rl, cb_rv, cb_th, cb_ite, ps_s, ps_n, u_199_0, u_199_19, u_199_20, u_199_49, u_199_51, u_199_65, u_199_76, u_199_80, u_199_106, u_199_111, u_199_133, u_199_144, Int.reduceEq, Int.reduceLT, Int.reduceLE, reduceIte, Int.reduceAdd, Int.reduceSub, Int.reduceMul, Int.reduceNeg, Int.reduceToNat, Bool.false_eq_true, eq_self, if_pos, if_neg]
  | succ n ih =>
    intro L a A B g ha hn
    have te := T.1
    have T' : TX (mL h A B g) t e := mL_TX T
    have sm := skip_m (lv + 28) T' ha
    have hfa : ∀ A B g x, RD (mL h A B g) x 198 0 0 = -1 := fun A B g x => by rw [RD_o (by omega), mL_o (by omega)]; exact hf
    have f1 := hfa A B g a
    have hb := sk_b t ha
    have hss := sk_sk t ha
    generalize sk t e a = p at sm hb hss
    have ml := mline_x lv A B g T hb.2 hf hF hO hD
    rw [hss] at ml
    unfold pLaw
    cases hq : pLine t e p with
    | inl f =>
      rw [hq] at ml
      obtain ⟨z, hz, ml⟩ := ml
      obtain ⟨y, sz⟩ := skip_z (lv + 28) T' z (f : Int) hz.1
      have ml : cl (lv + 30) 209 [aA 12 0] (RD (mL h A B g) p) = rv (hset (RZ (mL h A B g) z) 198 0 0 (f : Int)) := ml
      have ef : hset (RZ (mL h A B g) y) 198 0 0 (f : Int) 198 0 0 = (f : Int) := hs_eq _ _ _ _ _
      refine ⟨((L.length : Int) + 1), y, A, B, g, ?_⟩
      rw [hd_199_23]
      simp (disch := omega) only [x_6_0, x_79_1_12_d0, x_79_1_12_d1, x_79_1_12_d2, x_79_1_12_d3, x_79_1_12_d4, x_33, x_65, x_1, x_60, x_61, x_7_2_I, x_7_2_A, x_7_2_U, x_7_3_I, x_7_3_A, x_7_3_U, x_4_2, x_68, x_63, x_4_3, x_4_1, x_79_2_12_d0, x_79_2_12_d1, x_79_2_12_d2, x_79_2_12_d3, x_79_2_12_d4, x_10_3_I, x_10_3_A, x_10_3_U, x_47_I, x_47_A, x_11, x_36, x_82, cb_ri, cb_rl, cb_rv, cb_th, cb_ite, ps_s, ps_n, u_199_0, u_199_19, u_199_20, u_199_49, u_199_51, u_199_65, u_199_76, u_199_80, u_199_106, u_199_111, u_199_133, u_199_144, f1, sm, ml, sz, ef, w32_id, Int.reduceEq, Int.reduceLT, Int.reduceLE, reduceIte, Int.reduceAdd, Int.reduceSub, Int.reduceMul, Int.reduceNeg, Int.reduceToNat, Bool.false_eq_true, eq_self, if_pos, if_neg]
      rw [hd_199_23]
      simp (disch := omega) only [x_6_0, x_79_1_12_d0, x_79_1_12_d1, x_79_1_12_d2, x_79_1_12_d3, x_79_1_12_d4, x_33, x_65, x_1, x_60, x_61, x_7_2_I, x_7_2_A, x_7_2_U, x_7_3_I, x_7_3_A, x_7_3_U, x_4_2, x_68, x_63, x_4_3, x_4_1, x_79_2_12_d0, x_79_2_12_d1, x_79_2_12_d2, x_79_2_12_d3, x_79_2_12_d4, x_10_3_I, x_10_3_A, x_10_3_U, x_47_I, x_47_A, x_11, x_36, x_82, cb_ri, cb_rl, cb_rv, cb_th, cb_ite, ps_s, ps_n, u_199_0, u_199_19, u_199_20, u_199_49, u_199_51, u_199_65, u_199_76, u_199_80, u_199_106, u_199_111, u_199_133, u_199_144, Int.reduceEq, Int.reduceLT, Int.reduceLE, reduceIte, Int.reduceAdd, Int.reduceSub, Int.reduceMul, Int.reduceNeg, Int.reduceToNat, Bool.false_eq_true, eq_self, if_pos, if_neg]
    | inr w =>
      obtain ⟨x, q⟩ := w
      rw [hq] at ml
      obtain ⟨a2, A2, B2, g2, n1, n2, ml⟩ := ml
      have hl := pLine_len hb.2 hq
      have T2 : TX (mL h A2 B2 g2) t e := mL_TX T
      have s2 := skip_m (lv + 28) T2 n1
      rw [n2] at s2
      have qq : sk t e q = q := by rw [← n2]; exact sk_sk t n1
      have f2 := hfa A2 B2 g2 q
      have e1 := RD_a (mL h A2 B2 g2) q
      have e2 := (RD_TX T2 q).2.1
      have sg := sign_m (lv + 27) 59 T2 hl.2.1
      rw [qq] at sg
      have e3 : (((L ++ [x]).length : Nat) : Int) = (L.length : Int) + 1 := by simp
      dsimp only
      rw [hd_199_23]
      by_cases h1 : q = e
      · rw [if_pos h1]
        refine ⟨A2, B2, g2, ?_⟩
        rw [e3]
        subst h1
        simp (disch := omega) only [x_6_0, x_79_1_12_d0, x_79_1_12_d1, x_79_1_12_d2, x_79_1_12_d3, x_79_1_12_d4, x_33, x_65, x_1, x_60, x_61, x_7_2_I, x_7_2_A, x_7_2_U, x_7_3_I, x_7_3_A, x_7_3_U, x_4_2, x_68, x_63, x_4_3, x_4_1, x_79_2_12_d0, x_79_2_12_d1, x_79_2_12_d2, x_79_2_12_d3, x_79_2_12_d4, x_10_3_I, x_10_3_A, x_10_3_U, x_47_I, x_47_A, x_11, x_36, x_82, cb_ri, cb_rl, cb_rv, cb_th, cb_ite, ps_s, ps_n, u_199_0, u_199_19, u_199_20, u_199_49, u_199_51, u_199_65, u_199_76, u_199_80, u_199_106, u_199_111, u_199_133, u_199_144, f1, sm, ml, s2, f2, e1, e2, w32_id, Int.reduceEq, Int.reduceLT, Int.reduceLE, reduceIte, Int.reduceAdd, Int.reduceSub, Int.reduceMul, Int.reduceNeg, Int.reduceToNat, Bool.false_eq_true, eq_self, if_pos, if_neg]
        rw [hd_199_23]
        simp (disch := omega) only [x_6_0, x_79_1_12_d0, x_79_1_12_d1, x_79_1_12_d2, x_79_1_12_d3, x_79_1_12_d4, x_33, x_65, x_1, x_60, x_61, x_7_2_I, x_7_2_A, x_7_2_U, x_7_3_I, x_7_3_A, x_7_3_U, x_4_2, x_68, x_63, x_4_3, x_4_1, x_79_2_12_d0, x_79_2_12_d1, x_79_2_12_d2, x_79_2_12_d3, x_79_2_12_d4, x_10_3_I, x_10_3_A, x_10_3_U, x_47_I, x_47_A, x_11, x_36, x_82, cb_ri, cb_rl, cb_rv, cb_th, cb_ite, ps_s, ps_n, u_199_0, u_199_19, u_199_20, u_199_49, u_199_51, u_199_65, u_199_76, u_199_80, u_199_106, u_199_111, u_199_133, u_199_144, Int.reduceEq, Int.reduceLT, Int.reduceLE, reduceIte, Int.reduceAdd, Int.reduceSub, Int.reduceMul, Int.reduceNeg, Int.reduceToNat, Bool.false_eq_true, eq_self, if_pos, if_neg]
      · rw [if_neg h1]
        have h1' : ¬ (q : Int) = (e : Int) := by omega
        by_cases h2 : isC t e q 59 = true
        · rw [if_pos h2] at sg ⊢
          have qs := isC_sk h2 (by decide) (by decide)
          have st := RD_RD (mL h A2 B2 g2) q (q + 1)
          have cc : ((q : Int) + 1) = ((q + 1 : Nat) : Int) := by omega
          have r := ih (L ++ [x]) (q + 1) A2 B2 g2 qs.2 (by simp; omega)
          rw [qs.1, e3] at r
          simp (disch := omega) only [x_6_0, x_79_1_12_d0, x_79_1_12_d1, x_79_1_12_d2, x_79_1_12_d3, x_79_1_12_d4, x_33, x_65, x_1, x_60, x_61, x_7_2_I, x_7_2_A, x_7_2_U, x_7_3_I, x_7_3_A, x_7_3_U, x_4_2, x_68, x_63, x_4_3, x_4_1, x_79_2_12_d0, x_79_2_12_d1, x_79_2_12_d2, x_79_2_12_d3, x_79_2_12_d4, x_10_3_I, x_10_3_A, x_10_3_U, x_47_I, x_47_A, x_11, x_36, x_82, cb_ri, cb_rl, cb_rv, cb_th, cb_ite, ps_s, ps_n, u_199_0, u_199_19, u_199_20, u_199_49, u_199_51, u_199_65, u_199_76, u_199_80, u_199_106, u_199_111, u_199_133, u_199_144, f1, sm, ml, s2, f2, e1, e2, h1', sg, w32_id, cc, st, Int.reduceEq, Int.reduceLT, Int.reduceLE, reduceIte, Int.reduceAdd, Int.reduceSub, Int.reduceMul, Int.reduceNeg, Int.reduceToNat, Bool.false_eq_true, eq_self, if_pos, if_neg]
          exact r
        · rw [if_neg h2] at sg ⊢
          have wr := wrong_m (lv + 29) (RD (mL h A2 B2 g2) q) (q : Int) f2
          have ef : hset (RD (mL h A2 B2 g2) q) 198 0 0 (q : Int) 198 0 0 = (q : Int) := hs_eq _ _ _ _ _
          refine ⟨((L.length : Int) + 1), (q : Int), A2, B2, g2, ?_⟩
          show _ = ri _ (hset (RD (mL h A2 B2 g2) q) 198 0 0 _)
          simp (disch := omega) only [x_6_0, x_79_1_12_d0, x_79_1_12_d1, x_79_1_12_d2, x_79_1_12_d3, x_79_1_12_d4, x_33, x_65, x_1, x_60, x_61, x_7_2_I, x_7_2_A, x_7_2_U, x_7_3_I, x_7_3_A, x_7_3_U, x_4_2, x_68, x_63, x_4_3, x_4_1, x_79_2_12_d0, x_79_2_12_d1, x_79_2_12_d2, x_79_2_12_d3, x_79_2_12_d4, x_10_3_I, x_10_3_A, x_10_3_U, x_47_I, x_47_A, x_11, x_36, x_82, cb_ri, cb_rl, cb_rv, cb_th, cb_ite, ps_s, ps_n, u_199_0, u_199_19, u_199_20, u_199_49, u_199_51, u_199_65, u_199_76, u_199_80, u_199_106, u_199_111, u_199_133, u_199_144, f1, sm, ml, s2, f2, e1, e2, h1', sg, wr, w32_id, Int.reduceEq, Int.reduceLT, Int.reduceLE, reduceIte, Int.reduceAdd, Int.reduceSub, Int.reduceMul, Int.reduceNeg, Int.reduceToNat, Bool.false_eq_true, eq_self, if_pos, if_neg]
          rw [hd_199_23]
          simp (disch := omega) only [x_6_0, x_79_1_12_d0, x_79_1_12_d1, x_79_1_12_d2, x_79_1_12_d3, x_79_1_12_d4, x_33, x_65, x_1, x_60, x_61, x_7_2_I, x_7_2_A, x_7_2_U, x_7_3_I, x_7_3_A, x_7_3_U, x_4_2, x_68, x_63, x_4_3, x_4_1, x_79_2_12_d0, x_79_2_12_d1, x_79_2_12_d2, x_79_2_12_d3, x_79_2_12_d4, x_10_3_I, x_10_3_A, x_10_3_U, x_47_I, x_47_A, x_11, x_36, x_82, cb_ri, cb_rl, cb_rv, cb_th, cb_ite, ps_s, ps_n, u_199_0, u_199_19, u_199_20, u_199_49, u_199_51, u_199_65, u_199_76, u_199_80, u_199_106, u_199_111, u_199_133, u_199_144, ef, Int.reduceEq, Int.reduceLT, Int.reduceLE, reduceIte, Int.reduceAdd, Int.reduceSub, Int.reduceMul, Int.reduceNeg, Int.reduceToNat, Bool.false_eq_true, eq_self, if_pos, if_neg]
theorem mread_x (lv : Nat) {h : Hp} {t : Nat → Int} {e : Nat} {F : Nat → Int} (A B : Bool) (g : Int) (T : TX h t e) (hf : h 198 0 0 = -1) (hF : FC h F) (hO : FZ F) (hD : h 199 0 0 = 0) : match lawOf t e with
    | .inl f => ∃ v z A2 B2 g2, cl (lv + 31) 199 [aA 12 0, aI 1] (RD (mL h A B g) 0) = ri v (hset (RZ (mL h A2 B2 g2) z) 198 0 0 (f : Int))
    | .inr L => ∃ A2 B2 g2, cl (lv + 31) 199 [aA 12 0, aI 1] (RD (mL h A B g) 0) = ri (L.length : Int) (RD (mL h A2 B2 g2) e) := by
  have T' : TX (mL h A B g) t e := mL_TX T
  have sm := skip_m (lv + 28) T' (Nat.zero_le e)
  have hb := sk_b t (Nat.zero_le e)
  have hss := sk_sk t (Nat.zero_le e)
  unfold lawOf
  generalize sk t e 0 = p at sm hb hss
  have e1 := RD_a (mL h A B g) p
  have e2 := (RD_TX T' p).2.1
  by_cases h1 : p = e
  · rw [if_pos h1]
    subst h1
    refine ⟨A, B, g, ?_⟩
    show _ = ri 0 _
    rw [in_199]
    simp (disch := omega) only [x_6_0, x_79_1_12_d0, x_79_1_12_d1, x_79_1_12_d2, x_79_1_12_d3, x_79_1_12_d4, x_33, x_65, x_1, x_60, x_61, x_7_2_I, x_7_2_A, x_7_2_U, x_7_3_I, x_7_3_A, x_7_3_U, x_4_2, x_68, x_63, x_4_3, x_4_1, x_79_2_12_d0, x_79_2_12_d1, x_79_2_12_d2, x_79_2_12_d3, x_79_2_12_d4, x_10_3_I, x_10_3_A, x_10_3_U, x_47_I, x_47_A, x_11, x_36, x_82, cb_ri, cb_rl, cb_rv, cb_th, cb_ite, ps_s, ps_n, u_199_0, u_199_19, u_199_20, u_199_49, u_199_51, u_199_65, u_199_76, u_199_80, u_199_106, u_199_111, u_199_133, u_199_144, sm, e1, e2, Int.reduceEq, Int.reduceLT, Int.reduceLE, reduceIte, Int.reduceAdd, Int.reduceSub, Int.reduceMul, Int.reduceNeg, Int.reduceToNat, Bool.false_eq_true, eq_self, if_pos, if_neg]
    rw [hd_199_23]
    simp (disch := omega) only [x_6_0, x_79_1_12_d0, x_79_1_12_d1, x_79_1_12_d2, x_79_1_12_d3, x_79_1_12_d4, x_33, x_65, x_1, x_60, x_61, x_7_2_I, x_7_2_A, x_7_2_U, x_7_3_I, x_7_3_A, x_7_3_U, x_4_2, x_68, x_63, x_4_3, x_4_1, x_79_2_12_d0, x_79_2_12_d1, x_79_2_12_d2, x_79_2_12_d3, x_79_2_12_d4, x_10_3_I, x_10_3_A, x_10_3_U, x_47_I, x_47_A, x_11, x_36, x_82, cb_ri, cb_rl, cb_rv, cb_th, cb_ite, ps_s, ps_n, u_199_0, u_199_19, u_199_20, u_199_49, u_199_51, u_199_65, u_199_76, u_199_80, u_199_106, u_199_111, u_199_133, u_199_144, Int.reduceEq, Int.reduceLT, Int.reduceLE, reduceIte, Int.reduceAdd, Int.reduceSub, Int.reduceMul, Int.reduceNeg, Int.reduceToNat, Bool.false_eq_true, eq_self, if_pos, if_neg]
  · rw [if_neg h1]
    have r := mread_y lv T hf hF hO hD 12 [] p A B g hb.2 rfl
    rw [hss] at r
    have st : cl (lv + 31) 199 [aA 12 0, aI 1] (RD (mL h A B g) 0) = run (lv + 30) 199 23 [aA 12 0, aI 1, aI 1, aI (([] : List LN).length : Int)] [] (RD (mL h A B g) p) := by
      rw [in_199]
      simp (disch := omega) only [x_6_0, x_79_1_12_d0, x_79_1_12_d1, x_79_1_12_d2, x_79_1_12_d3, x_79_1_12_d4, x_33, x_65, x_1, x_60, x_61, x_7_2_I, x_7_2_A, x_7_2_U, x_7_3_I, x_7_3_A, x_7_3_U, x_4_2, x_68, x_63, x_4_3, x_4_1, x_79_2_12_d0, x_79_2_12_d1, x_79_2_12_d2, x_79_2_12_d3, x_79_2_12_d4, x_10_3_I, x_10_3_A, x_10_3_U, x_47_I, x_47_A, x_11, x_36, x_82, cb_ri, cb_rl, cb_rv, cb_th, cb_ite, ps_s, ps_n, u_199_0, u_199_19, u_199_20, u_199_49, u_199_51, u_199_65, u_199_76, u_199_80, u_199_106, u_199_111, u_199_133, u_199_144, sm, e1, e2, Int.reduceEq, Int.reduceLT, Int.reduceLE, reduceIte, Int.reduceAdd, Int.reduceSub, Int.reduceMul, Int.reduceNeg, Int.reduceToNat, Bool.false_eq_true, eq_self, if_pos, if_neg]
      rfl
    rw [st]
    exact r
