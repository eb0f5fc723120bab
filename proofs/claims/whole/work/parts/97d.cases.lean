/-! more cases -/
theorem lw_tune (lv i H N : Nat) (h : Hp) (I : INV h H N) (z : Zh h) (hb : h 27 0 0 ≤ 3072) (hi : (i : Int) + 6 ≤ h 27 0 0) : STEP lv 1844 i h := by
  intro v5 v6
  obtain ⟨o1, o2, o3, o4, o5⟩ := ob_i _ hb hi
  by_cases cx : (h 22 0 ((i : Int) + 2).toNat) = 0
  · rcases (ag_tune (lv + 4) (lv + 5) H N (h 22 0 ((i : Int) + 1).toNat) false h I) with ⟨v, h1, c1, h2, r1, r3, r5, I2, k1, k2⟩ | ⟨e, h1, c1, hT, b, h2, r1, r3, I2, k1, k2⟩
    · have c1 : cl (lv + 84) _ _ _ = _ := c1
      have r1 : cl (lv + 85) 267 [aA 12 0, aI (h 22 0 ((i : Int) + 1).toNat), aI (0 : Int)] _ = _ := r1
      have tc := thrown_c (lv + 84) h2
      rw [r3] at tc
      have wr := wa_tune (lv + 83) (h 22 0 ((i : Int) + 1).toNat) (0 : Int) h h1 v c1
      obtain ⟨q2, q7⟩ := Kh_o (t := 25) (k := 0) (j := 0) (v := v) (K_ri c1 (Kh_self h)) (by omega)
      refine ⟨0, h2, aI 0, aI v, by omega, ⟨I2, Z_ri r1 (Zh_o (Z_ri c1 z) (by omega)), fun j => k1 j, k2⟩, ?_⟩
      rw [addc_0]
      generalize hset h1 25 0 0 v = g1 at *
      simp (disch := omega) only [x_1, x_7_4_I, x_7_4_A, x_7_4_U, x_61, x_4_4, x_6_0, x_54, x_12, x_66, x_53, x_17, x_6_1, x_11, x_79_6_11_d0, x_79_6_11_d1, x_79_6_11_d2, x_79_6_11_d3, x_79_6_11_d4, x_6_2, x_79_6_12_d0, x_79_6_12_d1, x_79_6_12_d2, x_79_6_12_d3, x_79_6_12_d4, x_62, x_85, x_79_2_11_d0, x_79_2_11_d1, x_79_2_11_d2, x_79_2_11_d3, x_79_2_11_d4, x_79_2_12_d0, x_79_2_12_d1, x_79_2_12_d2, x_79_2_12_d3, x_79_2_12_d4, x_6_3, x_80_2_d0, x_80_2_d1, x_80_2_d2, x_80_2_d3, x_80_2_d4, x_7_5_I, x_7_5_A, x_7_5_U, x_79_1_12_d0, x_79_1_12_d1, x_79_1_12_d2, x_79_1_12_d3, x_79_1_12_d4, x_7_6_I, x_7_6_A, x_7_6_U, x_4_5, x_69, x_42, x_4_6, x_23, x_32, x_68, x_60, x_79_1_11_d0, x_79_1_11_d1, x_79_1_11_d2, x_79_1_11_d3, x_79_1_11_d4, x_80_4_d0, x_80_4_d1, x_80_4_d2, x_80_4_d3, x_80_4_d4, x_79_3_12_d0, x_79_3_12_d1, x_79_3_12_d2, x_79_3_12_d3, x_79_3_12_d4, x_2, x_80_3_d0, x_80_3_d1, x_80_3_d2, x_80_3_d3, x_80_3_d4, x_80_5_d0, x_80_5_d1, x_80_5_d2, x_80_5_d3, x_80_5_d4, x_79_4_12_d0, x_79_4_12_d1, x_79_4_12_d2, x_79_4_12_d3, x_79_4_12_d4, x_10_4_I, x_10_4_A, x_10_4_U, cb_ri, cb_rl, cb_rv, cb_th, cb_ite, ps_s, ps_n, u_368_1844, u_368_1864, u_368_1865, u_368_1891, u_368_1892, u_368_1908, u_368_1925, o1, o2, o3, o4, o5, cx, wr, r1, tc, r5, q2, jc_self, Int.reduceEq, Int.reduceLT, Int.reduceLE, reduceIte, Int.reduceAdd, Int.reduceSub, Int.reduceMul, Int.reduceNeg, Int.reduceToNat, Bool.false_eq_true, eq_self, if_pos, if_neg]
    · have c1 : cl (lv + 84) _ _ _ = _ := c1
      have r1 : cl (lv + 85) 267 [aA 12 0, aI (h 22 0 ((i : Int) + 1).toNat), aI (0 : Int)] _ = _ := r1
      have tc := thrown_c (lv + 84) h2
      rw [r3] at tc
      have wr := wb_tune (lv + 83) (h 22 0 ((i : Int) + 1).toNat) (0 : Int) h h1 e c1 hT
      obtain ⟨q2, q7⟩ := K_th c1 (Kh_self h)
      refine ⟨1, h2, aI (t2 e : Int), aI b, by omega, ⟨I2, Z_ri r1 (Z_th c1 z), fun j => k1 j, k2⟩, ?_⟩
      generalize t2 e = te at *
      have ht0 : ¬ (te : Int) = 0 := by omega
      simp (disch := omega) only [x_1, x_7_4_I, x_7_4_A, x_7_4_U, x_61, x_4_4, x_6_0, x_54, x_12, x_66, x_53, x_17, x_6_1, x_11, x_79_6_11_d0, x_79_6_11_d1, x_79_6_11_d2, x_79_6_11_d3, x_79_6_11_d4, x_6_2, x_79_6_12_d0, x_79_6_12_d1, x_79_6_12_d2, x_79_6_12_d3, x_79_6_12_d4, x_62, x_85, x_79_2_11_d0, x_79_2_11_d1, x_79_2_11_d2, x_79_2_11_d3, x_79_2_11_d4, x_79_2_12_d0, x_79_2_12_d1, x_79_2_12_d2, x_79_2_12_d3, x_79_2_12_d4, x_6_3, x_80_2_d0, x_80_2_d1, x_80_2_d2, x_80_2_d3, x_80_2_d4, x_7_5_I, x_7_5_A, x_7_5_U, x_79_1_12_d0, x_79_1_12_d1, x_79_1_12_d2, x_79_1_12_d3, x_79_1_12_d4, x_7_6_I, x_7_6_A, x_7_6_U, x_4_5, x_69, x_42, x_4_6, x_23, x_32, x_68, x_60, x_79_1_11_d0, x_79_1_11_d1, x_79_1_11_d2, x_79_1_11_d3, x_79_1_11_d4, x_80_4_d0, x_80_4_d1, x_80_4_d2, x_80_4_d3, x_80_4_d4, x_79_3_12_d0, x_79_3_12_d1, x_79_3_12_d2, x_79_3_12_d3, x_79_3_12_d4, x_2, x_80_3_d0, x_80_3_d1, x_80_3_d2, x_80_3_d3, x_80_3_d4, x_80_5_d0, x_80_5_d1, x_80_5_d2, x_80_5_d3, x_80_5_d4, x_79_4_12_d0, x_79_4_12_d1, x_79_4_12_d2, x_79_4_12_d3, x_79_4_12_d4, x_10_4_I, x_10_4_A, x_10_4_U, cb_ri, cb_rl, cb_rv, cb_th, cb_ite, ps_s, ps_n, u_368_1844, u_368_1864, u_368_1865, u_368_1891, u_368_1892, u_368_1908, u_368_1925, o1, o2, o3, o4, o5, cx, wr, cb_r1, r1, tc, q2, ht0, Int.reduceEq, Int.reduceLT, Int.reduceLE, reduceIte, Int.reduceAdd, Int.reduceSub, Int.reduceMul, Int.reduceNeg, Int.reduceToNat, Bool.false_eq_true, eq_self, if_pos, if_neg]
  · rcases (ag_tune (lv + 4) (lv + 5) H N (h 22 0 ((i : Int) + 1).toNat) true h I) with ⟨v, h1, c1, h2, r1, r3, r5, I2, k1, k2⟩ | ⟨e, h1, c1, hT, b, h2, r1, r3, I2, k1, k2⟩
    · have c1 : cl (lv + 84) _ _ _ = _ := c1
      have r1 : cl (lv + 85) 267 [aA 12 0, aI (h 22 0 ((i : Int) + 1).toNat), aI (1 : Int)] _ = _ := r1
      have tc := thrown_c (lv + 84) h2
      rw [r3] at tc
      have wr := wa_tune (lv + 83) (h 22 0 ((i : Int) + 1).toNat) (1 : Int) h h1 v c1
      obtain ⟨q2, q7⟩ := Kh_o (t := 25) (k := 0) (j := 0) (v := v) (K_ri c1 (Kh_self h)) (by omega)
      refine ⟨0, h2, aI 0, aI v, by omega, ⟨I2, Z_ri r1 (Zh_o (Z_ri c1 z) (by omega)), fun j => k1 j, k2⟩, ?_⟩
      rw [addc_0]
      generalize hset h1 25 0 0 v = g1 at *
      simp (disch := omega) only [x_1, x_7_4_I, x_7_4_A, x_7_4_U, x_61, x_4_4, x_6_0, x_54, x_12, x_66, x_53, x_17, x_6_1, x_11, x_79_6_11_d0, x_79_6_11_d1, x_79_6_11_d2, x_79_6_11_d3, x_79_6_11_d4, x_6_2, x_79_6_12_d0, x_79_6_12_d1, x_79_6_12_d2, x_79_6_12_d3, x_79_6_12_d4, x_62, x_85, x_79_2_11_d0, x_79_2_11_d1, x_79_2_11_d2, x_79_2_11_d3, x_79_2_11_d4, x_79_2_12_d0, x_79_2_12_d1, x_79_2_12_d2, x_79_2_12_d3, x_79_2_12_d4, x_6_3, x_80_2_d0, x_80_2_d1, x_80_2_d2, x_80_2_d3, x_80_2_d4, x_7_5_I, x_7_5_A, x_7_5_U, x_79_1_12_d0, x_79_1_12_d1, x_79_1_12_d2, x_79_1_12_d3, x_79_1_12_d4, x_7_6_I, x_7_6_A, x_7_6_U, x_4_5, x_69, x_42, x_4_6, x_23, x_32, x_68, x_60, x_79_1_11_d0, x_79_1_11_d1, x_79_1_11_d2, x_79_1_11_d3, x_79_1_11_d4, x_80_4_d0, x_80_4_d1, x_80_4_d2, x_80_4_d3, x_80_4_d4, x_79_3_12_d0, x_79_3_12_d1, x_79_3_12_d2, x_79_3_12_d3, x_79_3_12_d4, x_2, x_80_3_d0, x_80_3_d1, x_80_3_d2, x_80_3_d3, x_80_3_d4, x_80_5_d0, x_80_5_d1, x_80_5_d2, x_80_5_d3, x_80_5_d4, x_79_4_12_d0, x_79_4_12_d1, x_79_4_12_d2, x_79_4_12_d3, x_79_4_12_d4, x_10_4_I, x_10_4_A, x_10_4_U, cb_ri, cb_rl, cb_rv, cb_th, cb_ite, ps_s, ps_n, u_368_1844, u_368_1864, u_368_1865, u_368_1891, u_368_1892, u_368_1908, u_368_1925, o1, o2, o3, o4, o5, cx, wr, r1, tc, r5, q2, jc_self, Int.reduceEq, Int.reduceLT, Int.reduceLE, reduceIte, Int.reduceAdd, Int.reduceSub, Int.reduceMul, Int.reduceNeg, Int.reduceToNat, Bool.false_eq_true, eq_self, if_pos, if_neg]
    · have c1 : cl (lv + 84) _ _ _ = _ := c1
      have r1 : cl (lv + 85) 267 [aA 12 0, aI (h 22 0 ((i : Int) + 1).toNat), aI (1 : Int)] _ = _ := r1
      have tc := thrown_c (lv + 84) h2
      rw [r3] at tc
      have wr := wb_tune (lv + 83) (h 22 0 ((i : Int) + 1).toNat) (1 : Int) h h1 e c1 hT
      obtain ⟨q2, q7⟩ := K_th c1 (Kh_self h)
      refine ⟨1, h2, aI (t2 e : Int), aI b, by omega, ⟨I2, Z_ri r1 (Z_th c1 z), fun j => k1 j, k2⟩, ?_⟩
      generalize t2 e = te at *
      have ht0 : ¬ (te : Int) = 0 := by omega
      simp (disch := omega) only [x_1, x_7_4_I, x_7_4_A, x_7_4_U, x_61, x_4_4, x_6_0, x_54, x_12, x_66, x_53, x_17, x_6_1, x_11, x_79_6_11_d0, x_79_6_11_d1, x_79_6_11_d2, x_79_6_11_d3, x_79_6_11_d4, x_6_2, x_79_6_12_d0, x_79_6_12_d1, x_79_6_12_d2, x_79_6_12_d3, x_79_6_12_d4, x_62, x_85, x_79_2_11_d0, x_79_2_11_d1, x_79_2_11_d2, x_79_2_11_d3, x_79_2_11_d4, x_79_2_12_d0, x_79_2_12_d1, x_79_2_12_d2, x_79_2_12_d3, x_79_2_12_d4, x_6_3, x_80_2_d0, x_80_2_d1, x_80_2_d2, x_80_2_d3, x_80_2_d4, x_7_5_I, x_7_5_A, x_7_5_U, x_79_1_12_d0, x_79_1_12_d1, x_79_1_12_d2, x_79_1_12_d3, x_79_1_12_d4, x_7_6_I, x_7_6_A, x_7_6_U, x_4_5, x_69, x_42, x_4_6, x_23, x_32, x_68, x_60, x_79_1_11_d0, x_79_1_11_d1, x_79_1_11_d2, x_79_1_11_d3, x_79_1_11_d4, x_80_4_d0, x_80_4_d1, x_80_4_d2, x_80_4_d3, x_80_4_d4, x_79_3_12_d0, x_79_3_12_d1, x_79_3_12_d2, x_79_3_12_d3, x_79_3_12_d4, x_2, x_80_3_d0, x_80_3_d1, x_80_3_d2, x_80_3_d3, x_80_3_d4, x_80_5_d0, x_80_5_d1, x_80_5_d2, x_80_5_d3, x_80_5_d4, x_79_4_12_d0, x_79_4_12_d1, x_79_4_12_d2, x_79_4_12_d3, x_79_4_12_d4, x_10_4_I, x_10_4_A, x_10_4_U, cb_ri, cb_rl, cb_rv, cb_th, cb_ite, ps_s, ps_n, u_368_1844, u_368_1864, u_368_1865, u_368_1891, u_368_1892, u_368_1908, u_368_1925, o1, o2, o3, o4, o5, cx, wr, cb_r1, r1, tc, q2, ht0, Int.reduceEq, Int.reduceLT, Int.reduceLE, reduceIte, Int.reduceAdd, Int.reduceSub, Int.reduceMul, Int.reduceNeg, Int.reduceToNat, Bool.false_eq_true, eq_self, if_pos, if_neg]
theorem lw_steps (lv i H N : Nat) (h : Hp) (I : INV h H N) (z : Zh h) (hb : h 27 0 0 ≤ 3072) (hi : (i : Int) + 6 ≤ h 27 0 0) : STEP lv 1928 i h := by
  intro v5 v6
  obtain ⟨o1, o2, o3, o4, o5⟩ := ob_i _ hb hi
  obtain ⟨v, h1, h2, c1, r1, I2, k1, k2⟩ := ag_steps (lv + 5) (lv + 5) H N (h 22 0 ((i : Int) + 1).toNat) h I
  have c1 : cl (lv + 85) _ _ _ = _ := c1
  have r1 : cl (lv + 85) _ _ _ = _ := r1
  obtain ⟨q2, q7⟩ := K_ri c1 (Kh_self h)
  refine ⟨0, h2, v5, v6, by omega, ⟨I2, Z_ri r1 (Z_ri c1 z), fun j => k1 j, k2⟩, ?_⟩
  rw [addc_0]
  simp (disch := omega) only [x_1, x_7_4_I, x_7_4_A, x_7_4_U, x_61, x_4_4, x_6_0, x_54, x_12, x_66, x_53, x_17, x_6_1, x_11, x_79_6_11_d0, x_79_6_11_d1, x_79_6_11_d2, x_79_6_11_d3, x_79_6_11_d4, x_6_2, x_79_6_12_d0, x_79_6_12_d1, x_79_6_12_d2, x_79_6_12_d3, x_79_6_12_d4, x_62, x_85, x_79_2_11_d0, x_79_2_11_d1, x_79_2_11_d2, x_79_2_11_d3, x_79_2_11_d4, x_79_2_12_d0, x_79_2_12_d1, x_79_2_12_d2, x_79_2_12_d3, x_79_2_12_d4, x_6_3, x_80_2_d0, x_80_2_d1, x_80_2_d2, x_80_2_d3, x_80_2_d4, x_7_5_I, x_7_5_A, x_7_5_U, x_79_1_12_d0, x_79_1_12_d1, x_79_1_12_d2, x_79_1_12_d3, x_79_1_12_d4, x_7_6_I, x_7_6_A, x_7_6_U, x_4_5, x_69, x_42, x_4_6, x_23, x_32, x_68, x_60, x_79_1_11_d0, x_79_1_11_d1, x_79_1_11_d2, x_79_1_11_d3, x_79_1_11_d4, x_80_4_d0, x_80_4_d1, x_80_4_d2, x_80_4_d3, x_80_4_d4, x_79_3_12_d0, x_79_3_12_d1, x_79_3_12_d2, x_79_3_12_d3, x_79_3_12_d4, x_2, x_80_3_d0, x_80_3_d1, x_80_3_d2, x_80_3_d3, x_80_3_d4, x_80_5_d0, x_80_5_d1, x_80_5_d2, x_80_5_d3, x_80_5_d4, x_79_4_12_d0, x_79_4_12_d1, x_79_4_12_d2, x_79_4_12_d3, x_79_4_12_d4, x_10_4_I, x_10_4_A, x_10_4_U, cb_ri, cb_rl, cb_rv, cb_th, cb_ite, ps_s, ps_n, u_368_1928, o1, o2, o3, o4, o5, c1, r1, q2, Int.reduceEq, Int.reduceLT, Int.reduceLE, reduceIte, Int.reduceAdd, Int.reduceSub, Int.reduceMul, Int.reduceNeg, Int.reduceToNat, Bool.false_eq_true, eq_self, if_pos, if_neg]
theorem lw_next (lv i H N : Nat) (h : Hp) (I : INV h H N) (z : Zh h) (hb : h 27 0 0 ≤ 3072) (hi : (i : Int) + 6 ≤ h 27 0 0) : STEP lv 1953 i h := by
  intro v5 v6
  obtain ⟨o1, o2, o3, o4, o5⟩ := ob_i _ hb hi
  rcases (ag_next (lv + 4) (lv + 5) H N  h I) with ⟨v, h1, c1, h2, r1, r3, r5, I2, k1, k2⟩ | ⟨e, h1, c1, hT, b, h2, r1, r3, I2, k1, k2⟩
  · have c1 : cl (lv + 84) _ _ _ = _ := c1
    have r1 : cl (lv + 85) 271 [aA 12 0] _ = _ := r1
    have tc := thrown_c (lv + 84) h2
    rw [r3] at tc
    have wr := wa_next (lv + 83)  h h1 v c1
    obtain ⟨q2, q7⟩ := Kh_o (t := 25) (k := 0) (j := 0) (v := v) (K_ri c1 (Kh_self h)) (by omega)
    refine ⟨0, h2, aI 0, aI v, by omega, ⟨I2, Z_ri r1 (Zh_o (Z_ri c1 z) (by omega)), fun j => k1 j, k2⟩, ?_⟩
    rw [addc_0]
    generalize hset h1 25 0 0 v = g1 at *
    simp (disch := omega) only [x_1, x_7_4_I, x_7_4_A, x_7_4_U, x_61, x_4_4, x_6_0, x_54, x_12, x_66, x_53, x_17, x_6_1, x_11, x_79_6_11_d0, x_79_6_11_d1, x_79_6_11_d2, x_79_6_11_d3, x_79_6_11_d4, x_6_2, x_79_6_12_d0, x_79_6_12_d1, x_79_6_12_d2, x_79_6_12_d3, x_79_6_12_d4, x_62, x_85, x_79_2_11_d0, x_79_2_11_d1, x_79_2_11_d2, x_79_2_11_d3, x_79_2_11_d4, x_79_2_12_d0, x_79_2_12_d1, x_79_2_12_d2, x_79_2_12_d3, x_79_2_12_d4, x_6_3, x_80_2_d0, x_80_2_d1, x_80_2_d2, x_80_2_d3, x_80_2_d4, x_7_5_I, x_7_5_A, x_7_5_U, x_79_1_12_d0, x_79_1_12_d1, x_79_1_12_d2, x_79_1_12_d3, x_79_1_12_d4, x_7_6_I, x_7_6_A, x_7_6_U, x_4_5, x_69, x_42, x_4_6, x_23, x_32, x_68, x_60, x_79_1_11_d0, x_79_1_11_d1, x_79_1_11_d2, x_79_1_11_d3, x_79_1_11_d4, x_80_4_d0, x_80_4_d1, x_80_4_d2, x_80_4_d3, x_80_4_d4, x_79_3_12_d0, x_79_3_12_d1, x_79_3_12_d2, x_79_3_12_d3, x_79_3_12_d4, x_2, x_80_3_d0, x_80_3_d1, x_80_3_d2, x_80_3_d3, x_80_3_d4, x_80_5_d0, x_80_5_d1, x_80_5_d2, x_80_5_d3, x_80_5_d4, x_79_4_12_d0, x_79_4_12_d1, x_79_4_12_d2, x_79_4_12_d3, x_79_4_12_d4, x_10_4_I, x_10_4_A, x_10_4_U, cb_ri, cb_rl, cb_rv, cb_th, cb_ite, ps_s, ps_n, u_368_1953, u_368_1977, u_368_1994, o1, o2, o3, o4, o5, wr, r1, tc, r5, q2, jc_self, Int.reduceEq, Int.reduceLT, Int.reduceLE, reduceIte, Int.reduceAdd, Int.reduceSub, Int.reduceMul, Int.reduceNeg, Int.reduceToNat, Bool.false_eq_true, eq_self, if_pos, if_neg]
  · have c1 : cl (lv + 84) _ _ _ = _ := c1
    have r1 : cl (lv + 85) 271 [aA 12 0] _ = _ := r1
    have tc := thrown_c (lv + 84) h2
    rw [r3] at tc
    have wr := wb_next (lv + 83)  h h1 e c1 hT
    obtain ⟨q2, q7⟩ := K_th c1 (Kh_self h)
    refine ⟨1, h2, aI (t0 e : Int), aI b, by omega, ⟨I2, Z_ri r1 (Z_th c1 z), fun j => k1 j, k2⟩, ?_⟩
    generalize t0 e = te at *
    have ht0 : ¬ (te : Int) = 0 := by omega
    simp (disch := omega) only [x_1, x_7_4_I, x_7_4_A, x_7_4_U, x_61, x_4_4, x_6_0, x_54, x_12, x_66, x_53, x_17, x_6_1, x_11, x_79_6_11_d0, x_79_6_11_d1, x_79_6_11_d2, x_79_6_11_d3, x_79_6_11_d4, x_6_2, x_79_6_12_d0, x_79_6_12_d1, x_79_6_12_d2, x_79_6_12_d3, x_79_6_12_d4, x_62, x_85, x_79_2_11_d0, x_79_2_11_d1, x_79_2_11_d2, x_79_2_11_d3, x_79_2_11_d4, x_79_2_12_d0, x_79_2_12_d1, x_79_2_12_d2, x_79_2_12_d3, x_79_2_12_d4, x_6_3, x_80_2_d0, x_80_2_d1, x_80_2_d2, x_80_2_d3, x_80_2_d4, x_7_5_I, x_7_5_A, x_7_5_U, x_79_1_12_d0, x_79_1_12_d1, x_79_1_12_d2, x_79_1_12_d3, x_79_1_12_d4, x_7_6_I, x_7_6_A, x_7_6_U, x_4_5, x_69, x_42, x_4_6, x_23, x_32, x_68, x_60, x_79_1_11_d0, x_79_1_11_d1, x_79_1_11_d2, x_79_1_11_d3, x_79_1_11_d4, x_80_4_d0, x_80_4_d1, x_80_4_d2, x_80_4_d3, x_80_4_d4, x_79_3_12_d0, x_79_3_12_d1, x_79_3_12_d2, x_79_3_12_d3, x_79_3_12_d4, x_2, x_80_3_d0, x_80_3_d1, x_80_3_d2, x_80_3_d3, x_80_3_d4, x_80_5_d0, x_80_5_d1, x_80_5_d2, x_80_5_d3, x_80_5_d4, x_79_4_12_d0, x_79_4_12_d1, x_79_4_12_d2, x_79_4_12_d3, x_79_4_12_d4, x_10_4_I, x_10_4_A, x_10_4_U, cb_ri, cb_rl, cb_rv, cb_th, cb_ite, ps_s, ps_n, u_368_1953, u_368_1977, u_368_1994, o1, o2, o3, o4, o5, wr, cb_r1, r1, tc, q2, ht0, Int.reduceEq, Int.reduceLT, Int.reduceLE, reduceIte, Int.reduceAdd, Int.reduceSub, Int.reduceMul, Int.reduceNeg, Int.reduceToNat, Bool.false_eq_true, eq_self, if_pos, if_neg]
theorem lw_octaves (lv i H N : Nat) (h : Hp) (I : INV h H N) (z : Zh h) (hb : h 27 0 0 ≤ 3072) (hi : (i : Int) + 6 ≤ h 27 0 0) : STEP lv 1997 i h := by
  intro v5 v6
  obtain ⟨o1, o2, o3, o4, o5⟩ := ob_i _ hb hi
  obtain ⟨v, h1, h2, c1, r1, I2, k1, k2⟩ := ag_octaves (lv + 5) (lv + 5) H N  h I
  have c1 : cl (lv + 85) _ _ _ = _ := c1
  have r1 : cl (lv + 85) _ _ _ = _ := r1
  obtain ⟨q2, q7⟩ := K_ri c1 (Kh_self h)
  refine ⟨0, h2, v5, v6, by omega, ⟨I2, Z_ri r1 (Z_ri c1 z), fun j => k1 j, k2⟩, ?_⟩
  rw [addc_0]
  simp (disch := omega) only [x_1, x_7_4_I, x_7_4_A, x_7_4_U, x_61, x_4_4, x_6_0, x_54, x_12, x_66, x_53, x_17, x_6_1, x_11, x_79_6_11_d0, x_79_6_11_d1, x_79_6_11_d2, x_79_6_11_d3, x_79_6_11_d4, x_6_2, x_79_6_12_d0, x_79_6_12_d1, x_79_6_12_d2, x_79_6_12_d3, x_79_6_12_d4, x_62, x_85, x_79_2_11_d0, x_79_2_11_d1, x_79_2_11_d2, x_79_2_11_d3, x_79_2_11_d4, x_79_2_12_d0, x_79_2_12_d1, x_79_2_12_d2, x_79_2_12_d3, x_79_2_12_d4, x_6_3, x_80_2_d0, x_80_2_d1, x_80_2_d2, x_80_2_d3, x_80_2_d4, x_7_5_I, x_7_5_A, x_7_5_U, x_79_1_12_d0, x_79_1_12_d1, x_79_1_12_d2, x_79_1_12_d3, x_79_1_12_d4, x_7_6_I, x_7_6_A, x_7_6_U, x_4_5, x_69, x_42, x_4_6, x_23, x_32, x_68, x_60, x_79_1_11_d0, x_79_1_11_d1, x_79_1_11_d2, x_79_1_11_d3, x_79_1_11_d4, x_80_4_d0, x_80_4_d1, x_80_4_d2, x_80_4_d3, x_80_4_d4, x_79_3_12_d0, x_79_3_12_d1, x_79_3_12_d2, x_79_3_12_d3, x_79_3_12_d4, x_2, x_80_3_d0, x_80_3_d1, x_80_3_d2, x_80_3_d3, x_80_3_d4, x_80_5_d0, x_80_5_d1, x_80_5_d2, x_80_5_d3, x_80_5_d4, x_79_4_12_d0, x_79_4_12_d1, x_79_4_12_d2, x_79_4_12_d3, x_79_4_12_d4, x_10_4_I, x_10_4_A, x_10_4_U, cb_ri, cb_rl, cb_rv, cb_th, cb_ite, ps_s, ps_n, u_368_1997, o1, o2, o3, o4, o5, c1, r1, q2, Int.reduceEq, Int.reduceLT, Int.reduceLE, reduceIte, Int.reduceAdd, Int.reduceSub, Int.reduceMul, Int.reduceNeg, Int.reduceToNat, Bool.false_eq_true, eq_self, if_pos, if_neg]
theorem lw_sevens (lv i H N : Nat) (h : Hp) (I : INV h H N) (z : Zh h) (hb : h 27 0 0 ≤ 3072) (hi : (i : Int) + 6 ≤ h 27 0 0) : STEP lv 2010 i h := by
  intro v5 v6
  obtain ⟨o1, o2, o3, o4, o5⟩ := ob_i _ hb hi
  obtain ⟨v, h1, h2, c1, r1, I2, k1, k2⟩ := ag_sevens (lv + 5) (lv + 5) H N  h I
  have c1 : cl (lv + 85) _ _ _ = _ := c1
  have r1 : cl (lv + 85) _ _ _ = _ := r1
  obtain ⟨q2, q7⟩ := K_ri c1 (Kh_self h)
  refine ⟨0, h2, v5, v6, by omega, ⟨I2, Z_ri r1 (Z_ri c1 z), fun j => k1 j, k2⟩, ?_⟩
  rw [addc_0]
  simp (disch := omega) only [x_1, x_7_4_I, x_7_4_A, x_7_4_U, x_61, x_4_4, x_6_0, x_54, x_12, x_66, x_53, x_17, x_6_1, x_11, x_79_6_11_d0, x_79_6_11_d1, x_79_6_11_d2, x_79_6_11_d3, x_79_6_11_d4, x_6_2, x_79_6_12_d0, x_79_6_12_d1, x_79_6_12_d2, x_79_6_12_d3, x_79_6_12_d4, x_62, x_85, x_79_2_11_d0, x_79_2_11_d1, x_79_2_11_d2, x_79_2_11_d3, x_79_2_11_d4, x_79_2_12_d0, x_79_2_12_d1, x_79_2_12_d2, x_79_2_12_d3, x_79_2_12_d4, x_6_3, x_80_2_d0, x_80_2_d1, x_80_2_d2, x_80_2_d3, x_80_2_d4, x_7_5_I, x_7_5_A, x_7_5_U, x_79_1_12_d0, x_79_1_12_d1, x_79_1_12_d2, x_79_1_12_d3, x_79_1_12_d4, x_7_6_I, x_7_6_A, x_7_6_U, x_4_5, x_69, x_42, x_4_6, x_23, x_32, x_68, x_60, x_79_1_11_d0, x_79_1_11_d1, x_79_1_11_d2, x_79_1_11_d3, x_79_1_11_d4, x_80_4_d0, x_80_4_d1, x_80_4_d2, x_80_4_d3, x_80_4_d4, x_79_3_12_d0, x_79_3_12_d1, x_79_3_12_d2, x_79_3_12_d3, x_79_3_12_d4, x_2, x_80_3_d0, x_80_3_d1, x_80_3_d2, x_80_3_d3, x_80_3_d4, x_80_5_d0, x_80_5_d1, x_80_5_d2, x_80_5_d3, x_80_5_d4, x_79_4_12_d0, x_79_4_12_d1, x_79_4_12_d2, x_79_4_12_d3, x_79_4_12_d4, x_10_4_I, x_10_4_A, x_10_4_U, cb_ri, cb_rl, cb_rv, cb_th, cb_ite, ps_s, ps_n, u_368_2010, o1, o2, o3, o4, o5, c1, r1, q2, Int.reduceEq, Int.reduceLT, Int.reduceLE, reduceIte, Int.reduceAdd, Int.reduceSub, Int.reduceMul, Int.reduceNeg, Int.reduceToNat, Bool.false_eq_true, eq_self, if_pos, if_neg]
theorem lw_like (lv i H N : Nat) (h : Hp) (I : INV h H N) (z : Zh h) (hb : h 27 0 0 ≤ 3072) (hi : (i : Int) + 6 ≤ h 27 0 0) : STEP lv 2023 i h := by
  intro v5 v6
  obtain ⟨o1, o2, o3, o4, o5⟩ := ob_i _ hb hi
  obtain ⟨v, h1, h2, c1, r1, I2, k1, k2⟩ := ag_like (lv + 5) (lv + 5) H N  h I
  have c1 : cl (lv + 85) _ _ _ = _ := c1
  have r1 : cl (lv + 85) _ _ _ = _ := r1
  obtain ⟨q2, q7⟩ := K_ri c1 (Kh_self h)
  refine ⟨0, h2, v5, v6, by omega, ⟨I2, Z_ri r1 (Z_ri c1 z), fun j => k1 j, k2⟩, ?_⟩
  rw [addc_0]
  simp (disch := omega) only [x_1, x_7_4_I, x_7_4_A, x_7_4_U, x_61, x_4_4, x_6_0, x_54, x_12, x_66, x_53, x_17, x_6_1, x_11, x_79_6_11_d0, x_79_6_11_d1, x_79_6_11_d2, x_79_6_11_d3, x_79_6_11_d4, x_6_2, x_79_6_12_d0, x_79_6_12_d1, x_79_6_12_d2, x_79_6_12_d3, x_79_6_12_d4, x_62, x_85, x_79_2_11_d0, x_79_2_11_d1, x_79_2_11_d2, x_79_2_11_d3, x_79_2_11_d4, x_79_2_12_d0, x_79_2_12_d1, x_79_2_12_d2, x_79_2_12_d3, x_79_2_12_d4, x_6_3, x_80_2_d0, x_80_2_d1, x_80_2_d2, x_80_2_d3, x_80_2_d4, x_7_5_I, x_7_5_A, x_7_5_U, x_79_1_12_d0, x_79_1_12_d1, x_79_1_12_d2, x_79_1_12_d3, x_79_1_12_d4, x_7_6_I, x_7_6_A, x_7_6_U, x_4_5, x_69, x_42, x_4_6, x_23, x_32, x_68, x_60, x_79_1_11_d0, x_79_1_11_d1, x_79_1_11_d2, x_79_1_11_d3, x_79_1_11_d4, x_80_4_d0, x_80_4_d1, x_80_4_d2, x_80_4_d3, x_80_4_d4, x_79_3_12_d0, x_79_3_12_d1, x_79_3_12_d2, x_79_3_12_d3, x_79_3_12_d4, x_2, x_80_3_d0, x_80_3_d1, x_80_3_d2, x_80_3_d3, x_80_3_d4, x_80_5_d0, x_80_5_d1, x_80_5_d2, x_80_5_d3, x_80_5_d4, x_79_4_12_d0, x_79_4_12_d1, x_79_4_12_d2, x_79_4_12_d3, x_79_4_12_d4, x_10_4_I, x_10_4_A, x_10_4_U, cb_ri, cb_rl, cb_rv, cb_th, cb_ite, ps_s, ps_n, u_368_2023, o1, o2, o3, o4, o5, c1, r1, q2, Int.reduceEq, Int.reduceLT, Int.reduceLE, reduceIte, Int.reduceAdd, Int.reduceSub, Int.reduceMul, Int.reduceNeg, Int.reduceToNat, Bool.false_eq_true, eq_self, if_pos, if_neg]
theorem lw_whose (lv i H N : Nat) (h : Hp) (I : INV h H N) (z : Zh h) (hb : h 27 0 0 ≤ 3072) (hi : (i : Int) + 6 ≤ h 27 0 0) : STEP lv 2036 i h := by
  intro v5 v6
  obtain ⟨o1, o2, o3, o4, o5⟩ := ob_i _ hb hi
  by_cases cx : (h 22 0 ((i : Int) + 1).toNat) = 0
  · rcases (ag_whose (lv + 4) (lv + 5) H N false h I) with ⟨v, h1, c1, h2, r1, r3, r5, I2, k1, k2⟩ | ⟨e, h1, c1, hT, b, h2, r1, r3, I2, k1, k2⟩
    · have c1 : cl (lv + 84) _ _ _ = _ := c1
      have r1 : cl (lv + 85) 278 [aA 12 0, aI (0 : Int)] _ = _ := r1
      have tc := thrown_c (lv + 84) h2
      rw [r3] at tc
      have wr := wa_whose (lv + 83) (0 : Int) h h1 v c1
      obtain ⟨q2, q7⟩ := Kh_o (t := 25) (k := 0) (j := 0) (v := v) (K_ri c1 (Kh_self h)) (by omega)
      refine ⟨0, h2, aI 0, aI v, by omega, ⟨I2, Z_ri r1 (Zh_o (Z_ri c1 z) (by omega)), fun j => k1 j, k2⟩, ?_⟩
      rw [addc_0]
      generalize hset h1 25 0 0 v = g1 at *
      simp (disch := omega) only [x_1, x_7_4_I, x_7_4_A, x_7_4_U, x_61, x_4_4, x_6_0, x_54, x_12, x_66, x_53, x_17, x_6_1, x_11, x_79_6_11_d0, x_79_6_11_d1, x_79_6_11_d2, x_79_6_11_d3, x_79_6_11_d4, x_6_2, x_79_6_12_d0, x_79_6_12_d1, x_79_6_12_d2, x_79_6_12_d3, x_79_6_12_d4, x_62, x_85, x_79_2_11_d0, x_79_2_11_d1, x_79_2_11_d2, x_79_2_11_d3, x_79_2_11_d4, x_79_2_12_d0, x_79_2_12_d1, x_79_2_12_d2, x_79_2_12_d3, x_79_2_12_d4, x_6_3, x_80_2_d0, x_80_2_d1, x_80_2_d2, x_80_2_d3, x_80_2_d4, x_7_5_I, x_7_5_A, x_7_5_U, x_79_1_12_d0, x_79_1_12_d1, x_79_1_12_d2, x_79_1_12_d3, x_79_1_12_d4, x_7_6_I, x_7_6_A, x_7_6_U, x_4_5, x_69, x_42, x_4_6, x_23, x_32, x_68, x_60, x_79_1_11_d0, x_79_1_11_d1, x_79_1_11_d2, x_79_1_11_d3, x_79_1_11_d4, x_80_4_d0, x_80_4_d1, x_80_4_d2, x_80_4_d3, x_80_4_d4, x_79_3_12_d0, x_79_3_12_d1, x_79_3_12_d2, x_79_3_12_d3, x_79_3_12_d4, x_2, x_80_3_d0, x_80_3_d1, x_80_3_d2, x_80_3_d3, x_80_3_d4, x_80_5_d0, x_80_5_d1, x_80_5_d2, x_80_5_d3, x_80_5_d4, x_79_4_12_d0, x_79_4_12_d1, x_79_4_12_d2, x_79_4_12_d3, x_79_4_12_d4, x_10_4_I, x_10_4_A, x_10_4_U, cb_ri, cb_rl, cb_rv, cb_th, cb_ite, ps_s, ps_n, u_368_2036, u_368_2050, u_368_2051, u_368_2071, u_368_2072, u_368_2088, u_368_2105, o1, o2, o3, o4, o5, cx, wr, r1, tc, r5, q2, jc_self, Int.reduceEq, Int.reduceLT, Int.reduceLE, reduceIte, Int.reduceAdd, Int.reduceSub, Int.reduceMul, Int.reduceNeg, Int.reduceToNat, Bool.false_eq_true, eq_self, if_pos, if_neg]
    · have c1 : cl (lv + 84) _ _ _ = _ := c1
      have r1 : cl (lv + 85) 278 [aA 12 0, aI (0 : Int)] _ = _ := r1
      have tc := thrown_c (lv + 84) h2
      rw [r3] at tc
      have wr := wb_whose (lv + 83) (0 : Int) h h1 e c1 hT
      obtain ⟨q2, q7⟩ := K_th c1 (Kh_self h)
      refine ⟨1, h2, aI (t0 e : Int), aI b, by omega, ⟨I2, Z_ri r1 (Z_th c1 z), fun j => k1 j, k2⟩, ?_⟩
      generalize t0 e = te at *
      have ht0 : ¬ (te : Int) = 0 := by omega
      simp (disch := omega) only [x_1, x_7_4_I, x_7_4_A, x_7_4_U, x_61, x_4_4, x_6_0, x_54, x_12, x_66, x_53, x_17, x_6_1, x_11, x_79_6_11_d0, x_79_6_11_d1, x_79_6_11_d2, x_79_6_11_d3, x_79_6_11_d4, x_6_2, x_79_6_12_d0, x_79_6_12_d1, x_79_6_12_d2, x_79_6_12_d3, x_79_6_12_d4, x_62, x_85, x_79_2_11_d0, x_79_2_11_d1, x_79_2_11_d2, x_79_2_11_d3, x_79_2_11_d4, x_79_2_12_d0, x_79_2_12_d1, x_79_2_12_d2, x_79_2_12_d3, x_79_2_12_d4, x_6_3, x_80_2_d0, x_80_2_d1, x_80_2_d2, x_80_2_d3, x_80_2_d4, x_7_5_I, x_7_5_A, x_7_5_U, x_79_1_12_d0, x_79_1_12_d1, x_79_1_12_d2, x_79_1_12_d3, x_79_1_12_d4, x_7_6_I, x_7_6_A, x_7_6_U, x_4_5, x_69, x_42, x_4_6, x_23, x_32, x_68, x_60, x_79_1_11_d0, x_79_1_11_d1, x_79_1_11_d2, x_79_1_11_d3, x_79_1_11_d4, x_80_4_d0, x_80_4_d1, x_80_4_d2, x_80_4_d3, x_80_4_d4, x_79_3_12_d0, x_79_3_12_d1, x_79_3_12_d2, x_79_3_12_d3, x_79_3_12_d4, x_2, x_80_3_d0, x_80_3_d1, x_80_3_d2, x_80_3_d3, x_80_3_d4, x_80_5_d0, x_80_5_d1, x_80_5_d2, x_80_5_d3, x_80_5_d4, x_79_4_12_d0, x_79_4_12_d1, x_79_4_12_d2, x_79_4_12_d3, x_79_4_12_d4, x_10_4_I, x_10_4_A, x_10_4_U, cb_ri, cb_rl, cb_rv, cb_th, cb_ite, ps_s, ps_n, u_368_2036, u_368_2050, u_368_2051, u_368_2071, u_368_2072, u_368_2088, u_368_2105, o1, o2, o3, o4, o5, cx, wr, cb_r1, r1, tc, q2, ht0, Int.reduceEq, Int.reduceLT, Int.reduceLE, reduceIte, Int.reduceAdd, Int.reduceSub, Int.reduceMul, Int.reduceNeg, Int.reduceToNat, Bool.false_eq_true, eq_self, if_pos, if_neg]
  · rcases (ag_whose (lv + 4) (lv + 5) H N true h I) with ⟨v, h1, c1, h2, r1, r3, r5, I2, k1, k2⟩ | ⟨e, h1, c1, hT, b, h2, r1, r3, I2, k1, k2⟩
    · have c1 : cl (lv + 84) _ _ _ = _ := c1
      have r1 : cl (lv + 85) 278 [aA 12 0, aI (1 : Int)] _ = _ := r1
      have tc := thrown_c (lv + 84) h2
      rw [r3] at tc
      have wr := wa_whose (lv + 83) (1 : Int) h h1 v c1
      obtain ⟨q2, q7⟩ := Kh_o (t := 25) (k := 0) (j := 0) (v := v) (K_ri c1 (Kh_self h)) (by omega)
      refine ⟨0, h2, aI 0, aI v, by omega, ⟨I2, Z_ri r1 (Zh_o (Z_ri c1 z) (by omega)), fun j => k1 j, k2⟩, ?_⟩
      rw [addc_0]
      generalize hset h1 25 0 0 v = g1 at *
      simp (disch := omega) only [x_1, x_7_4_I, x_7_4_A, x_7_4_U, x_61, x_4_4, x_6_0, x_54, x_12, x_66, x_53, x_17, x_6_1, x_11, x_79_6_11_d0, x_79_6_11_d1, x_79_6_11_d2, x_79_6_11_d3, x_79_6_11_d4, x_6_2, x_79_6_12_d0, x_79_6_12_d1, x_79_6_12_d2, x_79_6_12_d3, x_79_6_12_d4, x_62, x_85, x_79_2_11_d0, x_79_2_11_d1, x_79_2_11_d2, x_79_2_11_d3, x_79_2_11_d4, x_79_2_12_d0, x_79_2_12_d1, x_79_2_12_d2, x_79_2_12_d3, x_79_2_12_d4, x_6_3, x_80_2_d0, x_80_2_d1, x_80_2_d2, x_80_2_d3, x_80_2_d4, x_7_5_I, x_7_5_A, x_7_5_U, x_79_1_12_d0, x_79_1_12_d1, x_79_1_12_d2, x_79_1_12_d3, x_79_1_12_d4, x_7_6_I, x_7_6_A, x_7_6_U, x_4_5, x_69, x_42, x_4_6, x_23, x_32, x_68, x_60, x_79_1_11_d0, x_79_1_11_d1, x_79_1_11_d2, x_79_1_11_d3, x_79_1_11_d4, x_80_4_d0, x_80_4_d1, x_80_4_d2, x_80_4_d3, x_80_4_d4, x_79_3_12_d0, x_79_3_12_d1, x_79_3_12_d2, x_79_3_12_d3, x_79_3_12_d4, x_2, x_80_3_d0, x_80_3_d1, x_80_3_d2, x_80_3_d3, x_80_3_d4, x_80_5_d0, x_80_5_d1, x_80_5_d2, x_80_5_d3, x_80_5_d4, x_79_4_12_d0, x_79_4_12_d1, x_79_4_12_d2, x_79_4_12_d3, x_79_4_12_d4, x_10_4_I, x_10_4_A, x_10_4_U, cb_ri, cb_rl, cb_rv, cb_th, cb_ite, ps_s, ps_n, u_368_2036, u_368_2050, u_368_2051, u_368_2071, u_368_2072, u_368_2088, u_368_2105, o1, o2, o3, o4, o5, cx, wr, r1, tc, r5, q2, jc_self, Int.reduceEq, Int.reduceLT, Int.reduceLE, reduceIte, Int.reduceAdd, Int.reduceSub, Int.reduceMul, Int.reduceNeg, Int.reduceToNat, Bool.false_eq_true, eq_self, if_pos, if_neg]
    · have c1 : cl (lv + 84) _ _ _ = _ := c1
      have r1 : cl (lv + 85) 278 [aA 12 0, aI (1 : Int)] _ = _ := r1
      have tc := thrown_c (lv + 84) h2
      rw [r3] at tc
      have wr := wb_whose (lv + 83) (1 : Int) h h1 e c1 hT
      obtain ⟨q2, q7⟩ := K_th c1 (Kh_self h)
      refine ⟨1, h2, aI (t0 e : Int), aI b, by omega, ⟨I2, Z_ri r1 (Z_th c1 z), fun j => k1 j, k2⟩, ?_⟩
      generalize t0 e = te at *
      have ht0 : ¬ (te : Int) = 0 := by omega
      simp (disch := omega) only [x_1, x_7_4_I, x_7_4_A, x_7_4_U, x_61, x_4_4, x_6_0, x_54, x_12, x_66, x_53, x_17, x_6_1, x_11, x_79_6_11_d0, x_79_6_11_d1, x_79_6_11_d2, x_79_6_11_d3, x_79_6_11_d4, x_6_2, x_79_6_12_d0, x_79_6_12_d1, x_79_6_12_d2, x_79_6_12_d3, x_79_6_12_d4, x_62, x_85, x_79_2_11_d0, x_79_2_11_d1, x_79_2_11_d2, x_79_2_11_d3, x_79_2_11_d4, x_79_2_12_d0, x_79_2_12_d1, x_79_2_12_d2, x_79_2_12_d3, x_79_2_12_d4, x_6_3, x_80_2_d0, x_80_2_d1, x_80_2_d2, x_80_2_d3, x_80_2_d4, x_7_5_I, x_7_5_A, x_7_5_U, x_79_1_12_d0, x_79_1_12_d1, x_79_1_12_d2, x_79_1_12_d3, x_79_1_12_d4, x_7_6_I, x_7_6_A, x_7_6_U, x_4_5, x_69, x_42, x_4_6, x_23, x_32, x_68, x_60, x_79_1_11_d0, x_79_1_11_d1, x_79_1_11_d2, x_79_1_11_d3, x_79_1_11_d4, x_80_4_d0, x_80_4_d1, x_80_4_d2, x_80_4_d3, x_80_4_d4, x_79_3_12_d0, x_79_3_12_d1, x_79_3_12_d2, x_79_3_12_d3, x_79_3_12_d4, x_2, x_80_3_d0, x_80_3_d1, x_80_3_d2, x_80_3_d3, x_80_3_d4, x_80_5_d0, x_80_5_d1, x_80_5_d2, x_80_5_d3, x_80_5_d4, x_79_4_12_d0, x_79_4_12_d1, x_79_4_12_d2, x_79_4_12_d3, x_79_4_12_d4, x_10_4_I, x_10_4_A, x_10_4_U, cb_ri, cb_rl, cb_rv, cb_th, cb_ite, ps_s, ps_n, u_368_2036, u_368_2050, u_368_2051, u_368_2071, u_368_2072, u_368_2088, u_368_2105, o1, o2, o3, o4, o5, cx, wr, cb_r1, r1, tc, q2, ht0, Int.reduceEq, Int.reduceLT, Int.reduceLE, reduceIte, Int.reduceAdd, Int.reduceSub, Int.reduceMul, Int.reduceNeg, Int.reduceToNat, Bool.false_eq_true, eq_self, if_pos, if_neg]
theorem lw_ask (lv i H N : Nat) (h : Hp) (I : INV h H N) (z : Zh h) (hb : h 27 0 0 ≤ 3072) (hi : (i : Int) + 6 ≤ h 27 0 0) : STEP lv 2108 i h := by
  intro v5 v6
  obtain ⟨o1, o2, o3, o4, o5⟩ := ob_i _ hb hi
  rcases (ag_ask (lv + 4) (lv + 5) H N  h I) with ⟨v, h1, c1, h2, r1, r3, r5, I2, k1, k2⟩ | ⟨e, h1, c1, hT, b, h2, r1, r3, I2, k1, k2⟩
  · have c1 : cl (lv + 84) _ _ _ = _ := c1
    have r1 : cl (lv + 85) 279 [aA 12 0] _ = _ := r1
    have tc := thrown_c (lv + 84) h2
    rw [r3] at tc
    have wr := wa_ask (lv + 83)  h h1 v c1
    obtain ⟨q2, q7⟩ := Kh_o (t := 25) (k := 0) (j := 0) (v := v) (K_ri c1 (Kh_self h)) (by omega)
    refine ⟨0, h2, aI 0, aI v, by omega, ⟨I2, Z_ri r1 (Zh_o (Z_ri c1 z) (by omega)), fun j => k1 j, k2⟩, ?_⟩
    rw [addc_0]
    generalize hset h1 25 0 0 v = g1 at *
    simp (disch := omega) only [x_1, x_7_4_I, x_7_4_A, x_7_4_U, x_61, x_4_4, x_6_0, x_54, x_12, x_66, x_53, x_17, x_6_1, x_11, x_79_6_11_d0, x_79_6_11_d1, x_79_6_11_d2, x_79_6_11_d3, x_79_6_11_d4, x_6_2, x_79_6_12_d0, x_79_6_12_d1, x_79_6_12_d2, x_79_6_12_d3, x_79_6_12_d4, x_62, x_85, x_79_2_11_d0, x_79_2_11_d1, x_79_2_11_d2, x_79_2_11_d3, x_79_2_11_d4, x_79_2_12_d0, x_79_2_12_d1, x_79_2_12_d2, x_79_2_12_d3, x_79_2_12_d4, x_6_3, x_80_2_d0, x_80_2_d1, x_80_2_d2, x_80_2_d3, x_80_2_d4, x_7_5_I, x_7_5_A, x_7_5_U, x_79_1_12_d0, x_79_1_12_d1, x_79_1_12_d2, x_79_1_12_d3, x_79_1_12_d4, x_7_6_I, x_7_6_A, x_7_6_U, x_4_5, x_69, x_42, x_4_6, x_23, x_32, x_68, x_60, x_79_1_11_d0, x_79_1_11_d1, x_79_1_11_d2, x_79_1_11_d3, x_79_1_11_d4, x_80_4_d0, x_80_4_d1, x_80_4_d2, x_80_4_d3, x_80_4_d4, x_79_3_12_d0, x_79_3_12_d1, x_79_3_12_d2, x_79_3_12_d3, x_79_3_12_d4, x_2, x_80_3_d0, x_80_3_d1, x_80_3_d2, x_80_3_d3, x_80_3_d4, x_80_5_d0, x_80_5_d1, x_80_5_d2, x_80_5_d3, x_80_5_d4, x_79_4_12_d0, x_79_4_12_d1, x_79_4_12_d2, x_79_4_12_d3, x_79_4_12_d4, x_10_4_I, x_10_4_A, x_10_4_U, cb_ri, cb_rl, cb_rv, cb_th, cb_ite, ps_s, ps_n, u_368_2108, u_368_2132, u_368_2149, o1, o2, o3, o4, o5, wr, r1, tc, r5, q2, jc_self, Int.reduceEq, Int.reduceLT, Int.reduceLE, reduceIte, Int.reduceAdd, Int.reduceSub, Int.reduceMul, Int.reduceNeg, Int.reduceToNat, Bool.false_eq_true, eq_self, if_pos, if_neg]
  · have c1 : cl (lv + 84) _ _ _ = _ := c1
    have r1 : cl (lv + 85) 279 [aA 12 0] _ = _ := r1
    have tc := thrown_c (lv + 84) h2
    rw [r3] at tc
    have wr := wb_ask (lv + 83)  h h1 e c1 hT
    obtain ⟨q2, q7⟩ := K_th c1 (Kh_self h)
    refine ⟨1, h2, aI (t0 e : Int), aI b, by omega, ⟨I2, Z_ri r1 (Z_th c1 z), fun j => k1 j, k2⟩, ?_⟩
    generalize t0 e = te at *
    have ht0 : ¬ (te : Int) = 0 := by omega
    simp (disch := omega) only [x_1, x_7_4_I, x_7_4_A, x_7_4_U, x_61, x_4_4, x_6_0, x_54, x_12, x_66, x_53, x_17, x_6_1, x_11, x_79_6_11_d0, x_79_6_11_d1, x_79_6_11_d2, x_79_6_11_d3, x_79_6_11_d4, x_6_2, x_79_6_12_d0, x_79_6_12_d1, x_79_6_12_d2, x_79_6_12_d3, x_79_6_12_d4, x_62, x_85, x_79_2_11_d0, x_79_2_11_d1, x_79_2_11_d2, x_79_2_11_d3, x_79_2_11_d4, x_79_2_12_d0, x_79_2_12_d1, x_79_2_12_d2, x_79_2_12_d3, x_79_2_12_d4, x_6_3, x_80_2_d0, x_80_2_d1, x_80_2_d2, x_80_2_d3, x_80_2_d4, x_7_5_I, x_7_5_A, x_7_5_U, x_79_1_12_d0, x_79_1_12_d1, x_79_1_12_d2, x_79_1_12_d3, x_79_1_12_d4, x_7_6_I, x_7_6_A, x_7_6_U, x_4_5, x_69, x_42, x_4_6, x_23, x_32, x_68, x_60, x_79_1_11_d0, x_79_1_11_d1, x_79_1_11_d2, x_79_1_11_d3, x_79_1_11_d4, x_80_4_d0, x_80_4_d1, x_80_4_d2, x_80_4_d3, x_80_4_d4, x_79_3_12_d0, x_79_3_12_d1, x_79_3_12_d2, x_79_3_12_d3, x_79_3_12_d4, x_2, x_80_3_d0, x_80_3_d1, x_80_3_d2, x_80_3_d3, x_80_3_d4, x_80_5_d0, x_80_5_d1, x_80_5_d2, x_80_5_d3, x_80_5_d4, x_79_4_12_d0, x_79_4_12_d1, x_79_4_12_d2, x_79_4_12_d3, x_79_4_12_d4, x_10_4_I, x_10_4_A, x_10_4_U, cb_ri, cb_rl, cb_rv, cb_th, cb_ite, ps_s, ps_n, u_368_2108, u_368_2132, u_368_2149, o1, o2, o3, o4, o5, wr, cb_r1, r1, tc, q2, ht0, Int.reduceEq, Int.reduceLT, Int.reduceLE, reduceIte, Int.reduceAdd, Int.reduceSub, Int.reduceMul, Int.reduceNeg, Int.reduceToNat, Bool.false_eq_true, eq_self, if_pos, if_neg]
theorem lw_trade (lv i H N : Nat) (h : Hp) (I : INV h H N) (z : Zh h) (hb : h 27 0 0 ≤ 3072) (hi : (i : Int) + 6 ≤ h 27 0 0) : STEP lv 2152 i h := by
  intro v5 v6
  obtain ⟨o1, o2, o3, o4, o5⟩ := ob_i _ hb hi
  rcases (ag_trade (lv + 4) (lv + 5) H N (h 22 0 ((i : Int) + 1).toNat) (h 22 0 ((i : Int) + 2).toNat) h I) with ⟨v, h1, c1, h2, r1, r3, r5, I2, k1, k2⟩ | ⟨e, h1, c1, hT, b, h2, r1, r3, I2, k1, k2⟩
  · have c1 : cl (lv + 84) _ _ _ = _ := c1
    have r1 : cl (lv + 85) 282 [aA 12 0, aI (h 22 0 ((i : Int) + 1).toNat), aI (h 22 0 ((i : Int) + 2).toNat)] _ = _ := r1
    have tc := thrown_c (lv + 84) h2
    rw [r3] at tc
    have wr := wa_trade (lv + 83) (h 22 0 ((i : Int) + 1).toNat) (h 22 0 ((i : Int) + 2).toNat) h h1 v c1
    obtain ⟨q2, q7⟩ := Kh_o (t := 25) (k := 0) (j := 0) (v := v) (K_ri c1 (Kh_self h)) (by omega)
    refine ⟨0, h2, aI 0, aI v, by omega, ⟨I2, Z_ri r1 (Zh_o (Z_ri c1 z) (by omega)), fun j => k1 j, k2⟩, ?_⟩
    rw [addc_0]
    generalize hset h1 25 0 0 v = g1 at *
    simp (disch := omega) only [x_1, x_7_4_I, x_7_4_A, x_7_4_U, x_61, x_4_4, x_6_0, x_54, x_12, x_66, x_53, x_17, x_6_1, x_11, x_79_6_11_d0, x_79_6_11_d1, x_79_6_11_d2, x_79_6_11_d3, x_79_6_11_d4, x_6_2, x_79_6_12_d0, x_79_6_12_d1, x_79_6_12_d2, x_79_6_12_d3, x_79_6_12_d4, x_62, x_85, x_79_2_11_d0, x_79_2_11_d1, x_79_2_11_d2, x_79_2_11_d3, x_79_2_11_d4, x_79_2_12_d0, x_79_2_12_d1, x_79_2_12_d2, x_79_2_12_d3, x_79_2_12_d4, x_6_3, x_80_2_d0, x_80_2_d1, x_80_2_d2, x_80_2_d3, x_80_2_d4, x_7_5_I, x_7_5_A, x_7_5_U, x_79_1_12_d0, x_79_1_12_d1, x_79_1_12_d2, x_79_1_12_d3, x_79_1_12_d4, x_7_6_I, x_7_6_A, x_7_6_U, x_4_5, x_69, x_42, x_4_6, x_23, x_32, x_68, x_60, x_79_1_11_d0, x_79_1_11_d1, x_79_1_11_d2, x_79_1_11_d3, x_79_1_11_d4, x_80_4_d0, x_80_4_d1, x_80_4_d2, x_80_4_d3, x_80_4_d4, x_79_3_12_d0, x_79_3_12_d1, x_79_3_12_d2, x_79_3_12_d3, x_79_3_12_d4, x_2, x_80_3_d0, x_80_3_d1, x_80_3_d2, x_80_3_d3, x_80_3_d4, x_80_5_d0, x_80_5_d1, x_80_5_d2, x_80_5_d3, x_80_5_d4, x_79_4_12_d0, x_79_4_12_d1, x_79_4_12_d2, x_79_4_12_d3, x_79_4_12_d4, x_10_4_I, x_10_4_A, x_10_4_U, cb_ri, cb_rl, cb_rv, cb_th, cb_ite, ps_s, ps_n, u_368_2152, u_368_2200, u_368_2217, o1, o2, o3, o4, o5, wr, r1, tc, r5, q2, jc_self, Int.reduceEq, Int.reduceLT, Int.reduceLE, reduceIte, Int.reduceAdd, Int.reduceSub, Int.reduceMul, Int.reduceNeg, Int.reduceToNat, Bool.false_eq_true, eq_self, if_pos, if_neg]
  · have c1 : cl (lv + 84) _ _ _ = _ := c1
    have r1 : cl (lv + 85) 282 [aA 12 0, aI (h 22 0 ((i : Int) + 1).toNat), aI (h 22 0 ((i : Int) + 2).toNat)] _ = _ := r1
    have tc := thrown_c (lv + 84) h2
    rw [r3] at tc
    have wr := wb_trade (lv + 83) (h 22 0 ((i : Int) + 1).toNat) (h 22 0 ((i : Int) + 2).toNat) h h1 e c1 hT
    obtain ⟨q2, q7⟩ := K_th c1 (Kh_self h)
    refine ⟨1, h2, aI (t20 e : Int), aI b, by omega, ⟨I2, Z_ri r1 (Z_th c1 z), fun j => k1 j, k2⟩, ?_⟩
    generalize t20 e = te at *
    have ht0 : ¬ (te : Int) = 0 := by omega
    simp (disch := omega) only [x_1, x_7_4_I, x_7_4_A, x_7_4_U, x_61, x_4_4, x_6_0, x_54, x_12, x_66, x_53, x_17, x_6_1, x_11, x_79_6_11_d0, x_79_6_11_d1, x_79_6_11_d2, x_79_6_11_d3, x_79_6_11_d4, x_6_2, x_79_6_12_d0, x_79_6_12_d1, x_79_6_12_d2, x_79_6_12_d3, x_79_6_12_d4, x_62, x_85, x_79_2_11_d0, x_79_2_11_d1, x_79_2_11_d2, x_79_2_11_d3, x_79_2_11_d4, x_79_2_12_d0, x_79_2_12_d1, x_79_2_12_d2, x_79_2_12_d3, x_79_2_12_d4, x_6_3, x_80_2_d0, x_80_2_d1, x_80_2_d2, x_80_2_d3, x_80_2_d4, x_7_5_I, x_7_5_A, x_7_5_U, x_79_1_12_d0, x_79_1_12_d1, x_79_1_12_d2, x_79_1_12_d3, x_79_1_12_d4, x_7_6_I, x_7_6_A, x_7_6_U, x_4_5, x_69, x_42, x_4_6, x_23, x_32, x_68, x_60, x_79_1_11_d0, x_79_1_11_d1, x_79_1_11_d2, x_79_1_11_d3, x_79_1_11_d4, x_80_4_d0, x_80_4_d1, x_80_4_d2, x_80_4_d3, x_80_4_d4, x_79_3_12_d0, x_79_3_12_d1, x_79_3_12_d2, x_79_3_12_d3, x_79_3_12_d4, x_2, x_80_3_d0, x_80_3_d1, x_80_3_d2, x_80_3_d3, x_80_3_d4, x_80_5_d0, x_80_5_d1, x_80_5_d2, x_80_5_d3, x_80_5_d4, x_79_4_12_d0, x_79_4_12_d1, x_79_4_12_d2, x_79_4_12_d3, x_79_4_12_d4, x_10_4_I, x_10_4_A, x_10_4_U, cb_ri, cb_rl, cb_rv, cb_th, cb_ite, ps_s, ps_n, u_368_2152, u_368_2200, u_368_2217, o1, o2, o3, o4, o5, wr, cb_r1, r1, tc, q2, ht0, Int.reduceEq, Int.reduceLT, Int.reduceLE, reduceIte, Int.reduceAdd, Int.reduceSub, Int.reduceMul, Int.reduceNeg, Int.reduceToNat, Bool.false_eq_true, eq_self, if_pos, if_neg]
theorem lw_load (lv i H N : Nat) (h : Hp) (I : INV h H N) (z : Zh h) (hb : h 27 0 0 ≤ 3072) (hi : (i : Int) + 6 ≤ h 27 0 0) : STEP lv 2220 i h := by
  intro v5 v6
  obtain ⟨o1, o2, o3, o4, o5⟩ := ob_i _ hb hi
  rcases (ag_load (lv + 4) (lv + 5) H N (h 22 0 ((i : Int) + 1).toNat) h I) with ⟨v, h1, c1, h2, r1, r3, r5, I2, k1, k2⟩ | ⟨e, h1, c1, hT, b, h2, r1, r3, I2, k1, k2⟩
  · have c1 : cl (lv + 84) _ _ _ = _ := c1
    have r1 : cl (lv + 85) 283 [aA 12 0, aI (h 22 0 ((i : Int) + 1).toNat)] _ = _ := r1
    have tc := thrown_c (lv + 84) h2
    rw [r3] at tc
    have wr := wa_load (lv + 83) (h 22 0 ((i : Int) + 1).toNat) h h1 v c1
    obtain ⟨q2, q7⟩ := Kh_o (t := 25) (k := 0) (j := 0) (v := v) (K_ri c1 (Kh_self h)) (by omega)
    refine ⟨0, h2, aI 0, aI v, by omega, ⟨I2, Z_ri r1 (Zh_o (Z_ri c1 z) (by omega)), fun j => k1 j, k2⟩, ?_⟩
    rw [addc_0]
    generalize hset h1 25 0 0 v = g1 at *
    simp (disch := omega) only [x_1, x_7_4_I, x_7_4_A, x_7_4_U, x_61, x_4_4, x_6_0, x_54, x_12, x_66, x_53, x_17, x_6_1, x_11, x_79_6_11_d0, x_79_6_11_d1, x_79_6_11_d2, x_79_6_11_d3, x_79_6_11_d4, x_6_2, x_79_6_12_d0, x_79_6_12_d1, x_79_6_12_d2, x_79_6_12_d3, x_79_6_12_d4, x_62, x_85, x_79_2_11_d0, x_79_2_11_d1, x_79_2_11_d2, x_79_2_11_d3, x_79_2_11_d4, x_79_2_12_d0, x_79_2_12_d1, x_79_2_12_d2, x_79_2_12_d3, x_79_2_12_d4, x_6_3, x_80_2_d0, x_80_2_d1, x_80_2_d2, x_80_2_d3, x_80_2_d4, x_7_5_I, x_7_5_A, x_7_5_U, x_79_1_12_d0, x_79_1_12_d1, x_79_1_12_d2, x_79_1_12_d3, x_79_1_12_d4, x_7_6_I, x_7_6_A, x_7_6_U, x_4_5, x_69, x_42, x_4_6, x_23, x_32, x_68, x_60, x_79_1_11_d0, x_79_1_11_d1, x_79_1_11_d2, x_79_1_11_d3, x_79_1_11_d4, x_80_4_d0, x_80_4_d1, x_80_4_d2, x_80_4_d3, x_80_4_d4, x_79_3_12_d0, x_79_3_12_d1, x_79_3_12_d2, x_79_3_12_d3, x_79_3_12_d4, x_2, x_80_3_d0, x_80_3_d1, x_80_3_d2, x_80_3_d3, x_80_3_d4, x_80_5_d0, x_80_5_d1, x_80_5_d2, x_80_5_d3, x_80_5_d4, x_79_4_12_d0, x_79_4_12_d1, x_79_4_12_d2, x_79_4_12_d3, x_79_4_12_d4, x_10_4_I, x_10_4_A, x_10_4_U, cb_ri, cb_rl, cb_rv, cb_th, cb_ite, ps_s, ps_n, u_368_2220, u_368_2256, u_368_2273, o1, o2, o3, o4, o5, wr, r1, tc, r5, q2, jc_self, Int.reduceEq, Int.reduceLT, Int.reduceLE, reduceIte, Int.reduceAdd, Int.reduceSub, Int.reduceMul, Int.reduceNeg, Int.reduceToNat, Bool.false_eq_true, eq_self, if_pos, if_neg]
  · have c1 : cl (lv + 84) _ _ _ = _ := c1
    have r1 : cl (lv + 85) 283 [aA 12 0, aI (h 22 0 ((i : Int) + 1).toNat)] _ = _ := r1
    have tc := thrown_c (lv + 84) h2
    rw [r3] at tc
    have wr := wb_load (lv + 83) (h 22 0 ((i : Int) + 1).toNat) h h1 e c1 hT
    obtain ⟨q2, q7⟩ := K_th c1 (Kh_self h)
    refine ⟨1, h2, aI (t2 e : Int), aI b, by omega, ⟨I2, Z_ri r1 (Z_th c1 z), fun j => k1 j, k2⟩, ?_⟩
    generalize t2 e = te at *
    have ht0 : ¬ (te : Int) = 0 := by omega
    simp (disch := omega) only [x_1, x_7_4_I, x_7_4_A, x_7_4_U, x_61, x_4_4, x_6_0, x_54, x_12, x_66, x_53, x_17, x_6_1, x_11, x_79_6_11_d0, x_79_6_11_d1, x_79_6_11_d2, x_79_6_11_d3, x_79_6_11_d4, x_6_2, x_79_6_12_d0, x_79_6_12_d1, x_79_6_12_d2, x_79_6_12_d3, x_79_6_12_d4, x_62, x_85, x_79_2_11_d0, x_79_2_11_d1, x_79_2_11_d2, x_79_2_11_d3, x_79_2_11_d4, x_79_2_12_d0, x_79_2_12_d1, x_79_2_12_d2, x_79_2_12_d3, x_79_2_12_d4, x_6_3, x_80_2_d0, x_80_2_d1, x_80_2_d2, x_80_2_d3, x_80_2_d4, x_7_5_I, x_7_5_A, x_7_5_U, x_79_1_12_d0, x_79_1_12_d1, x_79_1_12_d2, x_79_1_12_d3, x_79_1_12_d4, x_7_6_I, x_7_6_A, x_7_6_U, x_4_5, x_69, x_42, x_4_6, x_23, x_32, x_68, x_60, x_79_1_11_d0, x_79_1_11_d1, x_79_1_11_d2, x_79_1_11_d3, x_79_1_11_d4, x_80_4_d0, x_80_4_d1, x_80_4_d2, x_80_4_d3, x_80_4_d4, x_79_3_12_d0, x_79_3_12_d1, x_79_3_12_d2, x_79_3_12_d3, x_79_3_12_d4, x_2, x_80_3_d0, x_80_3_d1, x_80_3_d2, x_80_3_d3, x_80_3_d4, x_80_5_d0, x_80_5_d1, x_80_5_d2, x_80_5_d3, x_80_5_d4, x_79_4_12_d0, x_79_4_12_d1, x_79_4_12_d2, x_79_4_12_d3, x_79_4_12_d4, x_10_4_I, x_10_4_A, x_10_4_U, cb_ri, cb_rl, cb_rv, cb_th, cb_ite, ps_s, ps_n, u_368_2220, u_368_2256, u_368_2273, o1, o2, o3, o4, o5, wr, cb_r1, r1, tc, q2, ht0, Int.reduceEq, Int.reduceLT, Int.reduceLE, reduceIte, Int.reduceAdd, Int.reduceSub, Int.reduceMul, Int.reduceNeg, Int.reduceToNat, Bool.false_eq_true, eq_self, if_pos, if_neg]
theorem lw_sure (lv i H N : Nat) (h : Hp) (I : INV h H N) (z : Zh h) (hb : h 27 0 0 ≤ 3072) (hi : (i : Int) + 6 ≤ h 27 0 0) : STEP lv 2276 i h := by
  intro v5 v6
  obtain ⟨o1, o2, o3, o4, o5⟩ := ob_i _ hb hi
  rcases (ag_sure (lv + 4) (lv + 5) H N (h 22 0 ((i : Int) + 1).toNat) (h 22 0 ((i : Int) + 2).toNat) (h 22 0 ((i : Int) + 3).toNat) h I) with ⟨v, h1, c1, h2, r1, r3, r5, I2, k1, k2⟩ | ⟨e, h1, c1, hT, b, h2, r1, r3, I2, k1, k2⟩
  · have c1 : cl (lv + 84) _ _ _ = _ := c1
    have r1 : cl (lv + 85) 286 [aA 12 0, aI (h 22 0 ((i : Int) + 1).toNat), aI (h 22 0 ((i : Int) + 2).toNat), aI (h 22 0 ((i : Int) + 3).toNat)] _ = _ := r1
    have tc := thrown_c (lv + 84) h2
    rw [r3] at tc
    have hv := b_sure _ _ h v h1 c1
    have wr := wa_sure (lv + 83) (h 22 0 ((i : Int) + 1).toNat) (h 22 0 ((i : Int) + 2).toNat) (h 22 0 ((i : Int) + 3).toNat) h h1 v c1 hv
    obtain ⟨q2, q7⟩ := Kh_o (t := 25) (k := 0) (j := 0) (v := v) (K_ri c1 (Kh_self h)) (by omega)
    refine ⟨0, h2, aI 0, aI v, by omega, ⟨I2, Z_ri r1 (Zh_o (Z_ri c1 z) (by omega)), fun j => k1 j, k2⟩, ?_⟩
    rw [addc_0]
    generalize hset h1 25 0 0 v = g1 at *
    rcases hv with rfl | rfl
    · simp (disch := omega) only [x_1, x_7_4_I, x_7_4_A, x_7_4_U, x_61, x_4_4, x_6_0, x_54, x_12, x_66, x_53, x_17, x_6_1, x_11, x_79_6_11_d0, x_79_6_11_d1, x_79_6_11_d2, x_79_6_11_d3, x_79_6_11_d4, x_6_2, x_79_6_12_d0, x_79_6_12_d1, x_79_6_12_d2, x_79_6_12_d3, x_79_6_12_d4, x_62, x_85, x_79_2_11_d0, x_79_2_11_d1, x_79_2_11_d2, x_79_2_11_d3, x_79_2_11_d4, x_79_2_12_d0, x_79_2_12_d1, x_79_2_12_d2, x_79_2_12_d3, x_79_2_12_d4, x_6_3, x_80_2_d0, x_80_2_d1, x_80_2_d2, x_80_2_d3, x_80_2_d4, x_7_5_I, x_7_5_A, x_7_5_U, x_79_1_12_d0, x_79_1_12_d1, x_79_1_12_d2, x_79_1_12_d3, x_79_1_12_d4, x_7_6_I, x_7_6_A, x_7_6_U, x_4_5, x_69, x_42, x_4_6, x_23, x_32, x_68, x_60, x_79_1_11_d0, x_79_1_11_d1, x_79_1_11_d2, x_79_1_11_d3, x_79_1_11_d4, x_80_4_d0, x_80_4_d1, x_80_4_d2, x_80_4_d3, x_80_4_d4, x_79_3_12_d0, x_79_3_12_d1, x_79_3_12_d2, x_79_3_12_d3, x_79_3_12_d4, x_2, x_80_3_d0, x_80_3_d1, x_80_3_d2, x_80_3_d3, x_80_3_d4, x_80_5_d0, x_80_5_d1, x_80_5_d2, x_80_5_d3, x_80_5_d4, x_79_4_12_d0, x_79_4_12_d1, x_79_4_12_d2, x_79_4_12_d3, x_79_4_12_d4, x_10_4_I, x_10_4_A, x_10_4_U, cb_ri, cb_rl, cb_rv, cb_th, cb_ite, ps_s, ps_n, u_368_2276, u_368_2336, u_368_2353, u_368_2354, u_368_2360, o1, o2, o3, o4, o5, wr, r1, tc, r5, q2, jc_self, Int.reduceEq, Int.reduceLT, Int.reduceLE, reduceIte, Int.reduceAdd, Int.reduceSub, Int.reduceMul, Int.reduceNeg, Int.reduceToNat, Bool.false_eq_true, eq_self, if_pos, if_neg]
    · simp (disch := omega) only [x_1, x_7_4_I, x_7_4_A, x_7_4_U, x_61, x_4_4, x_6_0, x_54, x_12, x_66, x_53, x_17, x_6_1, x_11, x_79_6_11_d0, x_79_6_11_d1, x_79_6_11_d2, x_79_6_11_d3, x_79_6_11_d4, x_6_2, x_79_6_12_d0, x_79_6_12_d1, x_79_6_12_d2, x_79_6_12_d3, x_79_6_12_d4, x_62, x_85, x_79_2_11_d0, x_79_2_11_d1, x_79_2_11_d2, x_79_2_11_d3, x_79_2_11_d4, x_79_2_12_d0, x_79_2_12_d1, x_79_2_12_d2, x_79_2_12_d3, x_79_2_12_d4, x_6_3, x_80_2_d0, x_80_2_d1, x_80_2_d2, x_80_2_d3, x_80_2_d4, x_7_5_I, x_7_5_A, x_7_5_U, x_79_1_12_d0, x_79_1_12_d1, x_79_1_12_d2, x_79_1_12_d3, x_79_1_12_d4, x_7_6_I, x_7_6_A, x_7_6_U, x_4_5, x_69, x_42, x_4_6, x_23, x_32, x_68, x_60, x_79_1_11_d0, x_79_1_11_d1, x_79_1_11_d2, x_79_1_11_d3, x_79_1_11_d4, x_80_4_d0, x_80_4_d1, x_80_4_d2, x_80_4_d3, x_80_4_d4, x_79_3_12_d0, x_79_3_12_d1, x_79_3_12_d2, x_79_3_12_d3, x_79_3_12_d4, x_2, x_80_3_d0, x_80_3_d1, x_80_3_d2, x_80_3_d3, x_80_3_d4, x_80_5_d0, x_80_5_d1, x_80_5_d2, x_80_5_d3, x_80_5_d4, x_79_4_12_d0, x_79_4_12_d1, x_79_4_12_d2, x_79_4_12_d3, x_79_4_12_d4, x_10_4_I, x_10_4_A, x_10_4_U, cb_ri, cb_rl, cb_rv, cb_th, cb_ite, ps_s, ps_n, u_368_2276, u_368_2336, u_368_2353, u_368_2354, u_368_2360, o1, o2, o3, o4, o5, wr, r1, tc, r5, q2, jc_self, Int.reduceEq, Int.reduceLT, Int.reduceLE, reduceIte, Int.reduceAdd, Int.reduceSub, Int.reduceMul, Int.reduceNeg, Int.reduceToNat, Bool.false_eq_true, eq_self, if_pos, if_neg]
  · have c1 : cl (lv + 84) _ _ _ = _ := c1
    have r1 : cl (lv + 85) 286 [aA 12 0, aI (h 22 0 ((i : Int) + 1).toNat), aI (h 22 0 ((i : Int) + 2).toNat), aI (h 22 0 ((i : Int) + 3).toNat)] _ = _ := r1
    have tc := thrown_c (lv + 84) h2
    rw [r3] at tc
    have wr := wb_sure (lv + 83) (h 22 0 ((i : Int) + 1).toNat) (h 22 0 ((i : Int) + 2).toNat) (h 22 0 ((i : Int) + 3).toNat) h h1 e c1 hT
    obtain ⟨q2, q7⟩ := K_th c1 (Kh_self h)
    refine ⟨1, h2, aI (t20 e : Int), aI b, by omega, ⟨I2, Z_ri r1 (Z_th c1 z), fun j => k1 j, k2⟩, ?_⟩
    generalize t20 e = te at *
    have ht0 : ¬ (te : Int) = 0 := by omega
    simp (disch := omega) only [x_1, x_7_4_I, x_7_4_A, x_7_4_U, x_61, x_4_4, x_6_0, x_54, x_12, x_66, x_53, x_17, x_6_1, x_11, x_79_6_11_d0, x_79_6_11_d1, x_79_6_11_d2, x_79_6_11_d3, x_79_6_11_d4, x_6_2, x_79_6_12_d0, x_79_6_12_d1, x_79_6_12_d2, x_79_6_12_d3, x_79_6_12_d4, x_62, x_85, x_79_2_11_d0, x_79_2_11_d1, x_79_2_11_d2, x_79_2_11_d3, x_79_2_11_d4, x_79_2_12_d0, x_79_2_12_d1, x_79_2_12_d2, x_79_2_12_d3, x_79_2_12_d4, x_6_3, x_80_2_d0, x_80_2_d1, x_80_2_d2, x_80_2_d3, x_80_2_d4, x_7_5_I, x_7_5_A, x_7_5_U, x_79_1_12_d0, x_79_1_12_d1, x_79_1_12_d2, x_79_1_12_d3, x_79_1_12_d4, x_7_6_I, x_7_6_A, x_7_6_U, x_4_5, x_69, x_42, x_4_6, x_23, x_32, x_68, x_60, x_79_1_11_d0, x_79_1_11_d1, x_79_1_11_d2, x_79_1_11_d3, x_79_1_11_d4, x_80_4_d0, x_80_4_d1, x_80_4_d2, x_80_4_d3, x_80_4_d4, x_79_3_12_d0, x_79_3_12_d1, x_79_3_12_d2, x_79_3_12_d3, x_79_3_12_d4, x_2, x_80_3_d0, x_80_3_d1, x_80_3_d2, x_80_3_d3, x_80_3_d4, x_80_5_d0, x_80_5_d1, x_80_5_d2, x_80_5_d3, x_80_5_d4, x_79_4_12_d0, x_79_4_12_d1, x_79_4_12_d2, x_79_4_12_d3, x_79_4_12_d4, x_10_4_I, x_10_4_A, x_10_4_U, cb_ri, cb_rl, cb_rv, cb_th, cb_ite, ps_s, ps_n, u_368_2276, u_368_2336, u_368_2353, u_368_2354, u_368_2360, o1, o2, o3, o4, o5, wr, cb_r1, r1, tc, q2, ht0, Int.reduceEq, Int.reduceLT, Int.reduceLE, reduceIte, Int.reduceAdd, Int.reduceSub, Int.reduceMul, Int.reduceNeg, Int.reduceToNat, Bool.false_eq_true, eq_self, if_pos, if_neg]
theorem lw_doubt (lv i H N : Nat) (h : Hp) (I : INV h H N) (z : Zh h) (hb : h 27 0 0 ≤ 3072) (hi : (i : Int) + 6 ≤ h 27 0 0) : STEP lv 2363 i h := by
  intro v5 v6
  obtain ⟨o1, o2, o3, o4, o5⟩ := ob_i _ hb hi
  rcases (ag_doubt (lv + 4) (lv + 5) H N (h 22 0 ((i : Int) + 1).toNat) h I) with ⟨v, h1, c1, h2, r1, r3, r5, I2, k1, k2⟩ | ⟨e, h1, c1, hT, b, h2, r1, r3, I2, k1, k2⟩
  · have c1 : cl (lv + 84) _ _ _ = _ := c1
    have r1 : cl (lv + 85) 287 [aA 12 0, aI (h 22 0 ((i : Int) + 1).toNat)] _ = _ := r1
    have tc := thrown_c (lv + 84) h2
    rw [r3] at tc
    have wr := wa_doubt (lv + 83) (h 22 0 ((i : Int) + 1).toNat) h h1 v c1
    obtain ⟨q2, q7⟩ := Kh_o (t := 25) (k := 0) (j := 0) (v := v) (K_ri c1 (Kh_self h)) (by omega)
    refine ⟨0, h2, aI 0, aI v, by omega, ⟨I2, Z_ri r1 (Zh_o (Z_ri c1 z) (by omega)), fun j => k1 j, k2⟩, ?_⟩
    rw [addc_0]
    generalize hset h1 25 0 0 v = g1 at *
    simp (disch := omega) only [x_1, x_7_4_I, x_7_4_A, x_7_4_U, x_61, x_4_4, x_6_0, x_54, x_12, x_66, x_53, x_17, x_6_1, x_11, x_79_6_11_d0, x_79_6_11_d1, x_79_6_11_d2, x_79_6_11_d3, x_79_6_11_d4, x_6_2, x_79_6_12_d0, x_79_6_12_d1, x_79_6_12_d2, x_79_6_12_d3, x_79_6_12_d4, x_62, x_85, x_79_2_11_d0, x_79_2_11_d1, x_79_2_11_d2, x_79_2_11_d3, x_79_2_11_d4, x_79_2_12_d0, x_79_2_12_d1, x_79_2_12_d2, x_79_2_12_d3, x_79_2_12_d4, x_6_3, x_80_2_d0, x_80_2_d1, x_80_2_d2, x_80_2_d3, x_80_2_d4, x_7_5_I, x_7_5_A, x_7_5_U, x_79_1_12_d0, x_79_1_12_d1, x_79_1_12_d2, x_79_1_12_d3, x_79_1_12_d4, x_7_6_I, x_7_6_A, x_7_6_U, x_4_5, x_69, x_42, x_4_6, x_23, x_32, x_68, x_60, x_79_1_11_d0, x_79_1_11_d1, x_79_1_11_d2, x_79_1_11_d3, x_79_1_11_d4, x_80_4_d0, x_80_4_d1, x_80_4_d2, x_80_4_d3, x_80_4_d4, x_79_3_12_d0, x_79_3_12_d1, x_79_3_12_d2, x_79_3_12_d3, x_79_3_12_d4, x_2, x_80_3_d0, x_80_3_d1, x_80_3_d2, x_80_3_d3, x_80_3_d4, x_80_5_d0, x_80_5_d1, x_80_5_d2, x_80_5_d3, x_80_5_d4, x_79_4_12_d0, x_79_4_12_d1, x_79_4_12_d2, x_79_4_12_d3, x_79_4_12_d4, x_10_4_I, x_10_4_A, x_10_4_U, cb_ri, cb_rl, cb_rv, cb_th, cb_ite, ps_s, ps_n, u_368_2363, u_368_2399, u_368_2416, o1, o2, o3, o4, o5, wr, r1, tc, r5, q2, jc_self, Int.reduceEq, Int.reduceLT, Int.reduceLE, reduceIte, Int.reduceAdd, Int.reduceSub, Int.reduceMul, Int.reduceNeg, Int.reduceToNat, Bool.false_eq_true, eq_self, if_pos, if_neg]
  · have c1 : cl (lv + 84) _ _ _ = _ := c1
    have r1 : cl (lv + 85) 287 [aA 12 0, aI (h 22 0 ((i : Int) + 1).toNat)] _ = _ := r1
    have tc := thrown_c (lv + 84) h2
    rw [r3] at tc
    have wr := wb_doubt (lv + 83) (h 22 0 ((i : Int) + 1).toNat) h h1 e c1 hT
    obtain ⟨q2, q7⟩ := K_th c1 (Kh_self h)
    refine ⟨1, h2, aI (t2 e : Int), aI b, by omega, ⟨I2, Z_ri r1 (Z_th c1 z), fun j => k1 j, k2⟩, ?_⟩
    generalize t2 e = te at *
    have ht0 : ¬ (te : Int) = 0 := by omega
    simp (disch := omega) only [x_1, x_7_4_I, x_7_4_A, x_7_4_U, x_61, x_4_4, x_6_0, x_54, x_12, x_66, x_53, x_17, x_6_1, x_11, x_79_6_11_d0, x_79_6_11_d1, x_79_6_11_d2, x_79_6_11_d3, x_79_6_11_d4, x_6_2, x_79_6_12_d0, x_79_6_12_d1, x_79_6_12_d2, x_79_6_12_d3, x_79_6_12_d4, x_62, x_85, x_79_2_11_d0, x_79_2_11_d1, x_79_2_11_d2, x_79_2_11_d3, x_79_2_11_d4, x_79_2_12_d0, x_79_2_12_d1, x_79_2_12_d2, x_79_2_12_d3, x_79_2_12_d4, x_6_3, x_80_2_d0, x_80_2_d1, x_80_2_d2, x_80_2_d3, x_80_2_d4, x_7_5_I, x_7_5_A, x_7_5_U, x_79_1_12_d0, x_79_1_12_d1, x_79_1_12_d2, x_79_1_12_d3, x_79_1_12_d4, x_7_6_I, x_7_6_A, x_7_6_U, x_4_5, x_69, x_42, x_4_6, x_23, x_32, x_68, x_60, x_79_1_11_d0, x_79_1_11_d1, x_79_1_11_d2, x_79_1_11_d3, x_79_1_11_d4, x_80_4_d0, x_80_4_d1, x_80_4_d2, x_80_4_d3, x_80_4_d4, x_79_3_12_d0, x_79_3_12_d1, x_79_3_12_d2, x_79_3_12_d3, x_79_3_12_d4, x_2, x_80_3_d0, x_80_3_d1, x_80_3_d2, x_80_3_d3, x_80_3_d4, x_80_5_d0, x_80_5_d1, x_80_5_d2, x_80_5_d3, x_80_5_d4, x_79_4_12_d0, x_79_4_12_d1, x_79_4_12_d2, x_79_4_12_d3, x_79_4_12_d4, x_10_4_I, x_10_4_A, x_10_4_U, cb_ri, cb_rl, cb_rv, cb_th, cb_ite, ps_s, ps_n, u_368_2363, u_368_2399, u_368_2416, o1, o2, o3, o4, o5, wr, cb_r1, r1, tc, q2, ht0, Int.reduceEq, Int.reduceLT, Int.reduceLE, reduceIte, Int.reduceAdd, Int.reduceSub, Int.reduceMul, Int.reduceNeg, Int.reduceToNat, Bool.false_eq_true, eq_self, if_pos, if_neg]
theorem lw_chance (lv i H N : Nat) (h : Hp) (I : INV h H N) (z : Zh h) (hb : h 27 0 0 ≤ 3072) (hi : (i : Int) + 6 ≤ h 27 0 0) : STEP lv 2419 i h := by
  intro v5 v6
  obtain ⟨o1, o2, o3, o4, o5⟩ := ob_i _ hb hi
  by_cases cx : (h 22 0 ((i : Int) + 2).toNat) = 0
  · rcases (ag_chance (lv + 4) (lv + 5) H N (h 22 0 ((i : Int) + 1).toNat) false h I) with ⟨v, h1, c1, h2, r1, r3, r5, I2, k1, k2⟩ | ⟨e, h1, c1, hT, b, h2, r1, r3, I2, k1, k2⟩
    · have c1 : cl (lv + 84) _ _ _ = _ := c1
      have r1 : cl (lv + 85) 289 [aA 12 0, aI (h 22 0 ((i : Int) + 1).toNat), aI (0 : Int)] _ = _ := r1
      have tc := thrown_c (lv + 84) h2
      rw [r3] at tc
      have wr := wa_chance (lv + 83) (h 22 0 ((i : Int) + 1).toNat) (0 : Int) h h1 v c1
      obtain ⟨q2, q7⟩ := Kh_o (t := 25) (k := 0) (j := 0) (v := v) (K_ri c1 (Kh_self h)) (by omega)
      refine ⟨0, h2, aI 0, aI v, by omega, ⟨I2, Z_ri r1 (Zh_o (Z_ri c1 z) (by omega)), fun j => k1 j, k2⟩, ?_⟩
      rw [addc_0]
      generalize hset h1 25 0 0 v = g1 at *
      simp (disch := omega) only [x_1, x_7_4_I, x_7_4_A, x_7_4_U, x_61, x_4_4, x_6_0, x_54, x_12, x_66, x_53, x_17, x_6_1, x_11, x_79_6_11_d0, x_79_6_11_d1, x_79_6_11_d2, x_79_6_11_d3, x_79_6_11_d4, x_6_2, x_79_6_12_d0, x_79_6_12_d1, x_79_6_12_d2, x_79_6_12_d3, x_79_6_12_d4, x_62, x_85, x_79_2_11_d0, x_79_2_11_d1, x_79_2_11_d2, x_79_2_11_d3, x_79_2_11_d4, x_79_2_12_d0, x_79_2_12_d1, x_79_2_12_d2, x_79_2_12_d3, x_79_2_12_d4, x_6_3, x_80_2_d0, x_80_2_d1, x_80_2_d2, x_80_2_d3, x_80_2_d4, x_7_5_I, x_7_5_A, x_7_5_U, x_79_1_12_d0, x_79_1_12_d1, x_79_1_12_d2, x_79_1_12_d3, x_79_1_12_d4, x_7_6_I, x_7_6_A, x_7_6_U, x_4_5, x_69, x_42, x_4_6, x_23, x_32, x_68, x_60, x_79_1_11_d0, x_79_1_11_d1, x_79_1_11_d2, x_79_1_11_d3, x_79_1_11_d4, x_80_4_d0, x_80_4_d1, x_80_4_d2, x_80_4_d3, x_80_4_d4, x_79_3_12_d0, x_79_3_12_d1, x_79_3_12_d2, x_79_3_12_d3, x_79_3_12_d4, x_2, x_80_3_d0, x_80_3_d1, x_80_3_d2, x_80_3_d3, x_80_3_d4, x_80_5_d0, x_80_5_d1, x_80_5_d2, x_80_5_d3, x_80_5_d4, x_79_4_12_d0, x_79_4_12_d1, x_79_4_12_d2, x_79_4_12_d3, x_79_4_12_d4, x_10_4_I, x_10_4_A, x_10_4_U, cb_ri, cb_rl, cb_rv, cb_th, cb_ite, ps_s, ps_n, u_368_2419, u_368_2439, u_368_2440, u_368_2466, u_368_2467, u_368_2483, u_368_2500, o1, o2, o3, o4, o5, cx, wr, r1, tc, r5, q2, jc_self, Int.reduceEq, Int.reduceLT, Int.reduceLE, reduceIte, Int.reduceAdd, Int.reduceSub, Int.reduceMul, Int.reduceNeg, Int.reduceToNat, Bool.false_eq_true, eq_self, if_pos, if_neg]
    · have c1 : cl (lv + 84) _ _ _ = _ := c1
      have r1 : cl (lv + 85) 289 [aA 12 0, aI (h 22 0 ((i : Int) + 1).toNat), aI (0 : Int)] _ = _ := r1
      have tc := thrown_c (lv + 84) h2
      rw [r3] at tc
      have wr := wb_chance (lv + 83) (h 22 0 ((i : Int) + 1).toNat) (0 : Int) h h1 e c1 hT
      obtain ⟨q2, q7⟩ := K_th c1 (Kh_self h)
      refine ⟨1, h2, aI (t0 e : Int), aI b, by omega, ⟨I2, Z_ri r1 (Z_th c1 z), fun j => k1 j, k2⟩, ?_⟩
      generalize t0 e = te at *
      have ht0 : ¬ (te : Int) = 0 := by omega
      simp (disch := omega) only [x_1, x_7_4_I, x_7_4_A, x_7_4_U, x_61, x_4_4, x_6_0, x_54, x_12, x_66, x_53, x_17, x_6_1, x_11, x_79_6_11_d0, x_79_6_11_d1, x_79_6_11_d2, x_79_6_11_d3, x_79_6_11_d4, x_6_2, x_79_6_12_d0, x_79_6_12_d1, x_79_6_12_d2, x_79_6_12_d3, x_79_6_12_d4, x_62, x_85, x_79_2_11_d0, x_79_2_11_d1, x_79_2_11_d2, x_79_2_11_d3, x_79_2_11_d4, x_79_2_12_d0, x_79_2_12_d1, x_79_2_12_d2, x_79_2_12_d3, x_79_2_12_d4, x_6_3, x_80_2_d0, x_80_2_d1, x_80_2_d2, x_80_2_d3, x_80_2_d4, x_7_5_I, x_7_5_A, x_7_5_U, x_79_1_12_d0, x_79_1_12_d1, x_79_1_12_d2, x_79_1_12_d3, x_79_1_12_d4, x_7_6_I, x_7_6_A, x_7_6_U, x_4_5, x_69, x_42, x_4_6, x_23, x_32, x_68, x_60, x_79_1_11_d0, x_79_1_11_d1, x_79_1_11_d2, x_79_1_11_d3, x_79_1_11_d4, x_80_4_d0, x_80_4_d1, x_80_4_d2, x_80_4_d3, x_80_4_d4, x_79_3_12_d0, x_79_3_12_d1, x_79_3_12_d2, x_79_3_12_d3, x_79_3_12_d4, x_2, x_80_3_d0, x_80_3_d1, x_80_3_d2, x_80_3_d3, x_80_3_d4, x_80_5_d0, x_80_5_d1, x_80_5_d2, x_80_5_d3, x_80_5_d4, x_79_4_12_d0, x_79_4_12_d1, x_79_4_12_d2, x_79_4_12_d3, x_79_4_12_d4, x_10_4_I, x_10_4_A, x_10_4_U, cb_ri, cb_rl, cb_rv, cb_th, cb_ite, ps_s, ps_n, u_368_2419, u_368_2439, u_368_2440, u_368_2466, u_368_2467, u_368_2483, u_368_2500, o1, o2, o3, o4, o5, cx, wr, cb_r1, r1, tc, q2, ht0, Int.reduceEq, Int.reduceLT, Int.reduceLE, reduceIte, Int.reduceAdd, Int.reduceSub, Int.reduceMul, Int.reduceNeg, Int.reduceToNat, Bool.false_eq_true, eq_self, if_pos, if_neg]
  · rcases (ag_chance (lv + 4) (lv + 5) H N (h 22 0 ((i : Int) + 1).toNat) true h I) with ⟨v, h1, c1, h2, r1, r3, r5, I2, k1, k2⟩ | ⟨e, h1, c1, hT, b, h2, r1, r3, I2, k1, k2⟩
    · have c1 : cl (lv + 84) _ _ _ = _ := c1
      have r1 : cl (lv + 85) 289 [aA 12 0, aI (h 22 0 ((i : Int) + 1).toNat), aI (1 : Int)] _ = _ := r1
      have tc := thrown_c (lv + 84) h2
      rw [r3] at tc
      have wr := wa_chance (lv + 83) (h 22 0 ((i : Int) + 1).toNat) (1 : Int) h h1 v c1
      obtain ⟨q2, q7⟩ := Kh_o (t := 25) (k := 0) (j := 0) (v := v) (K_ri c1 (Kh_self h)) (by omega)
      refine ⟨0, h2, aI 0, aI v, by omega, ⟨I2, Z_ri r1 (Zh_o (Z_ri c1 z) (by omega)), fun j => k1 j, k2⟩, ?_⟩
      rw [addc_0]
      generalize hset h1 25 0 0 v = g1 at *
      simp (disch := omega) only [x_1, x_7_4_I, x_7_4_A, x_7_4_U, x_61, x_4_4, x_6_0, x_54, x_12, x_66, x_53, x_17, x_6_1, x_11, x_79_6_11_d0, x_79_6_11_d1, x_79_6_11_d2, x_79_6_11_d3, x_79_6_11_d4, x_6_2, x_79_6_12_d0, x_79_6_12_d1, x_79_6_12_d2, x_79_6_12_d3, x_79_6_12_d4, x_62, x_85, x_79_2_11_d0, x_79_2_11_d1, x_79_2_11_d2, x_79_2_11_d3, x_79_2_11_d4, x_79_2_12_d0, x_79_2_12_d1, x_79_2_12_d2, x_79_2_12_d3, x_79_2_12_d4, x_6_3, x_80_2_d0, x_80_2_d1, x_80_2_d2, x_80_2_d3, x_80_2_d4, x_7_5_I, x_7_5_A, x_7_5_U, x_79_1_12_d0, x_79_1_12_d1, x_79_1_12_d2, x_79_1_12_d3, x_79_1_12_d4, x_7_6_I, x_7_6_A, x_7_6_U, x_4_5, x_69, x_42, x_4_6, x_23, x_32, x_68, x_60, x_79_1_11_d0, x_79_1_11_d1, x_79_1_11_d2, x_79_1_11_d3, x_79_1_11_d4, x_80_4_d0, x_80_4_d1, x_80_4_d2, x_80_4_d3, x_80_4_d4, x_79_3_12_d0, x_79_3_12_d1, x_79_3_12_d2, x_79_3_12_d3, x_79_3_12_d4, x_2, x_80_3_d0, x_80_3_d1, x_80_3_d2, x_80_3_d3, x_80_3_d4, x_80_5_d0, x_80_5_d1, x_80_5_d2, x_80_5_d3, x_80_5_d4, x_79_4_12_d0, x_79_4_12_d1, x_79_4_12_d2, x_79_4_12_d3, x_79_4_12_d4, x_10_4_I, x_10_4_A, x_10_4_U, cb_ri, cb_rl, cb_rv, cb_th, cb_ite, ps_s, ps_n, u_368_2419, u_368_2439, u_368_2440, u_368_2466, u_368_2467, u_368_2483, u_368_2500, o1, o2, o3, o4, o5, cx, wr, r1, tc, r5, q2, jc_self, Int.reduceEq, Int.reduceLT, Int.reduceLE, reduceIte, Int.reduceAdd, Int.reduceSub, Int.reduceMul, Int.reduceNeg, Int.reduceToNat, Bool.false_eq_true, eq_self, if_pos, if_neg]
    · have c1 : cl (lv + 84) _ _ _ = _ := c1
      have r1 : cl (lv + 85) 289 [aA 12 0, aI (h 22 0 ((i : Int) + 1).toNat), aI (1 : Int)] _ = _ := r1
      have tc := thrown_c (lv + 84) h2
      rw [r3] at tc
      have wr := wb_chance (lv + 83) (h 22 0 ((i : Int) + 1).toNat) (1 : Int) h h1 e c1 hT
      obtain ⟨q2, q7⟩ := K_th c1 (Kh_self h)
      refine ⟨1, h2, aI (t0 e : Int), aI b, by omega, ⟨I2, Z_ri r1 (Z_th c1 z), fun j => k1 j, k2⟩, ?_⟩
      generalize t0 e = te at *
      have ht0 : ¬ (te : Int) = 0 := by omega
      simp (disch := omega) only [x_1, x_7_4_I, x_7_4_A, x_7_4_U, x_61, x_4_4, x_6_0, x_54, x_12, x_66, x_53, x_17, x_6_1, x_11, x_79_6_11_d0, x_79_6_11_d1, x_79_6_11_d2, x_79_6_11_d3, x_79_6_11_d4, x_6_2, x_79_6_12_d0, x_79_6_12_d1, x_79_6_12_d2, x_79_6_12_d3, x_79_6_12_d4, x_62, x_85, x_79_2_11_d0, x_79_2_11_d1, x_79_2_11_d2, x_79_2_11_d3, x_79_2_11_d4, x_79_2_12_d0, x_79_2_12_d1, x_79_2_12_d2, x_79_2_12_d3, x_79_2_12_d4, x_6_3, x_80_2_d0, x_80_2_d1, x_80_2_d2, x_80_2_d3, x_80_2_d4, x_7_5_I, x_7_5_A, x_7_5_U, x_79_1_12_d0, x_79_1_12_d1, x_79_1_12_d2, x_79_1_12_d3, x_79_1_12_d4, x_7_6_I, x_7_6_A, x_7_6_U, x_4_5, x_69, x_42, x_4_6, x_23, x_32, x_68, x_60, x_79_1_11_d0, x_79_1_11_d1, x_79_1_11_d2, x_79_1_11_d3, x_79_1_11_d4, x_80_4_d0, x_80_4_d1, x_80_4_d2, x_80_4_d3, x_80_4_d4, x_79_3_12_d0, x_79_3_12_d1, x_79_3_12_d2, x_79_3_12_d3, x_79_3_12_d4, x_2, x_80_3_d0, x_80_3_d1, x_80_3_d2, x_80_3_d3, x_80_3_d4, x_80_5_d0, x_80_5_d1, x_80_5_d2, x_80_5_d3, x_80_5_d4, x_79_4_12_d0, x_79_4_12_d1, x_79_4_12_d2, x_79_4_12_d3, x_79_4_12_d4, x_10_4_I, x_10_4_A, x_10_4_U, cb_ri, cb_rl, cb_rv, cb_th, cb_ite, ps_s, ps_n, u_368_2419, u_368_2439, u_368_2440, u_368_2466, u_368_2467, u_368_2483, u_368_2500, o1, o2, o3, o4, o5, cx, wr, cb_r1, r1, tc, q2, ht0, Int.reduceEq, Int.reduceLT, Int.reduceLE, reduceIte, Int.reduceAdd, Int.reduceSub, Int.reduceMul, Int.reduceNeg, Int.reduceToNat, Bool.false_eq_true, eq_self, if_pos, if_neg]
theorem lw_expect (lv i H N : Nat) (h : Hp) (I : INV h H N) (z : Zh h) (hb : h 27 0 0 ≤ 3072) (hi : (i : Int) + 6 ≤ h 27 0 0) : STEP lv 2503 i h := by
  intro v5 v6
  obtain ⟨o1, o2, o3, o4, o5⟩ := ob_i _ hb hi
  obtain ⟨v, h1, h2, c1, r1, I2, k1, k2⟩ := ag_expect (lv + 5) (lv + 5) H N  h I
  have c1 : cl (lv + 85) _ _ _ = _ := c1
  have r1 : cl (lv + 85) _ _ _ = _ := r1
  obtain ⟨q2, q7⟩ := K_ri c1 (Kh_self h)
  refine ⟨0, h2, v5, v6, by omega, ⟨I2, Z_ri r1 (Z_ri c1 z), fun j => k1 j, k2⟩, ?_⟩
  rw [addc_0]
  simp (disch := omega) only [x_1, x_7_4_I, x_7_4_A, x_7_4_U, x_61, x_4_4, x_6_0, x_54, x_12, x_66, x_53, x_17, x_6_1, x_11, x_79_6_11_d0, x_79_6_11_d1, x_79_6_11_d2, x_79_6_11_d3, x_79_6_11_d4, x_6_2, x_79_6_12_d0, x_79_6_12_d1, x_79_6_12_d2, x_79_6_12_d3, x_79_6_12_d4, x_62, x_85, x_79_2_11_d0, x_79_2_11_d1, x_79_2_11_d2, x_79_2_11_d3, x_79_2_11_d4, x_79_2_12_d0, x_79_2_12_d1, x_79_2_12_d2, x_79_2_12_d3, x_79_2_12_d4, x_6_3, x_80_2_d0, x_80_2_d1, x_80_2_d2, x_80_2_d3, x_80_2_d4, x_7_5_I, x_7_5_A, x_7_5_U, x_79_1_12_d0, x_79_1_12_d1, x_79_1_12_d2, x_79_1_12_d3, x_79_1_12_d4, x_7_6_I, x_7_6_A, x_7_6_U, x_4_5, x_69, x_42, x_4_6, x_23, x_32, x_68, x_60, x_79_1_11_d0, x_79_1_11_d1, x_79_1_11_d2, x_79_1_11_d3, x_79_1_11_d4, x_80_4_d0, x_80_4_d1, x_80_4_d2, x_80_4_d3, x_80_4_d4, x_79_3_12_d0, x_79_3_12_d1, x_79_3_12_d2, x_79_3_12_d3, x_79_3_12_d4, x_2, x_80_3_d0, x_80_3_d1, x_80_3_d2, x_80_3_d3, x_80_3_d4, x_80_5_d0, x_80_5_d1, x_80_5_d2, x_80_5_d3, x_80_5_d4, x_79_4_12_d0, x_79_4_12_d1, x_79_4_12_d2, x_79_4_12_d3, x_79_4_12_d4, x_10_4_I, x_10_4_A, x_10_4_U, cb_ri, cb_rl, cb_rv, cb_th, cb_ite, ps_s, ps_n, u_368_2503, o1, o2, o3, o4, o5, c1, r1, q2, Int.reduceEq, Int.reduceLT, Int.reduceLE, reduceIte, Int.reduceAdd, Int.reduceSub, Int.reduceMul, Int.reduceNeg, Int.reduceToNat, Bool.false_eq_true, eq_self, if_pos, if_neg]
theorem lw_worst (lv i H N : Nat) (h : Hp) (I : INV h H N) (z : Zh h) (hb : h 27 0 0 ≤ 3072) (hi : (i : Int) + 6 ≤ h 27 0 0) : STEP lv 2516 i h := by
  intro v5 v6
  obtain ⟨o1, o2, o3, o4, o5⟩ := ob_i _ hb hi
  rcases (ag_worst (lv + 4) (lv + 5) H N (h 22 0 ((i : Int) + 1).toNat) h I) with ⟨v, h1, c1, h2, r1, r3, r5, I2, k1, k2⟩ | ⟨e, h1, c1, hT, b, h2, r1, r3, I2, k1, k2⟩
  · have c1 : cl (lv + 84) _ _ _ = _ := c1
    have r1 : cl (lv + 85) 291 [aA 12 0, aI (h 22 0 ((i : Int) + 1).toNat)] _ = _ := r1
    have tc := thrown_c (lv + 84) h2
    rw [r3] at tc
    have wr := wa_worst (lv + 83) (h 22 0 ((i : Int) + 1).toNat) h h1 v c1
    obtain ⟨q2, q7⟩ := Kh_o (t := 25) (k := 0) (j := 0) (v := v) (K_ri c1 (Kh_self h)) (by omega)
    refine ⟨0, h2, aI 0, aI v, by omega, ⟨I2, Z_ri r1 (Zh_o (Z_ri c1 z) (by omega)), fun j => k1 j, k2⟩, ?_⟩
    rw [addc_0]
    generalize hset h1 25 0 0 v = g1 at *
    simp (disch := omega) only [x_1, x_7_4_I, x_7_4_A, x_7_4_U, x_61, x_4_4, x_6_0, x_54, x_12, x_66, x_53, x_17, x_6_1, x_11, x_79_6_11_d0, x_79_6_11_d1, x_79_6_11_d2, x_79_6_11_d3, x_79_6_11_d4, x_6_2, x_79_6_12_d0, x_79_6_12_d1, x_79_6_12_d2, x_79_6_12_d3, x_79_6_12_d4, x_62, x_85, x_79_2_11_d0, x_79_2_11_d1, x_79_2_11_d2, x_79_2_11_d3, x_79_2_11_d4, x_79_2_12_d0, x_79_2_12_d1, x_79_2_12_d2, x_79_2_12_d3, x_79_2_12_d4, x_6_3, x_80_2_d0, x_80_2_d1, x_80_2_d2, x_80_2_d3, x_80_2_d4, x_7_5_I, x_7_5_A, x_7_5_U, x_79_1_12_d0, x_79_1_12_d1, x_79_1_12_d2, x_79_1_12_d3, x_79_1_12_d4, x_7_6_I, x_7_6_A, x_7_6_U, x_4_5, x_69, x_42, x_4_6, x_23, x_32, x_68, x_60, x_79_1_11_d0, x_79_1_11_d1, x_79_1_11_d2, x_79_1_11_d3, x_79_1_11_d4, x_80_4_d0, x_80_4_d1, x_80_4_d2, x_80_4_d3, x_80_4_d4, x_79_3_12_d0, x_79_3_12_d1, x_79_3_12_d2, x_79_3_12_d3, x_79_3_12_d4, x_2, x_80_3_d0, x_80_3_d1, x_80_3_d2, x_80_3_d3, x_80_3_d4, x_80_5_d0, x_80_5_d1, x_80_5_d2, x_80_5_d3, x_80_5_d4, x_79_4_12_d0, x_79_4_12_d1, x_79_4_12_d2, x_79_4_12_d3, x_79_4_12_d4, x_10_4_I, x_10_4_A, x_10_4_U, cb_ri, cb_rl, cb_rv, cb_th, cb_ite, ps_s, ps_n, u_368_2516, u_368_2552, u_368_2569, o1, o2, o3, o4, o5, wr, r1, tc, r5, q2, jc_self, Int.reduceEq, Int.reduceLT, Int.reduceLE, reduceIte, Int.reduceAdd, Int.reduceSub, Int.reduceMul, Int.reduceNeg, Int.reduceToNat, Bool.false_eq_true, eq_self, if_pos, if_neg]
  · have c1 : cl (lv + 84) _ _ _ = _ := c1
    have r1 : cl (lv + 85) 291 [aA 12 0, aI (h 22 0 ((i : Int) + 1).toNat)] _ = _ := r1
    have tc := thrown_c (lv + 84) h2
    rw [r3] at tc
    have wr := wb_worst (lv + 83) (h 22 0 ((i : Int) + 1).toNat) h h1 e c1 hT
    obtain ⟨q2, q7⟩ := K_th c1 (Kh_self h)
    refine ⟨1, h2, aI (t2 e : Int), aI b, by omega, ⟨I2, Z_ri r1 (Z_th c1 z), fun j => k1 j, k2⟩, ?_⟩
    generalize t2 e = te at *
    have ht0 : ¬ (te : Int) = 0 := by omega
    simp (disch := omega) only [x_1, x_7_4_I, x_7_4_A, x_7_4_U, x_61, x_4_4, x_6_0, x_54, x_12, x_66, x_53, x_17, x_6_1, x_11, x_79_6_11_d0, x_79_6_11_d1, x_79_6_11_d2, x_79_6_11_d3, x_79_6_11_d4, x_6_2, x_79_6_12_d0, x_79_6_12_d1, x_79_6_12_d2, x_79_6_12_d3, x_79_6_12_d4, x_62, x_85, x_79_2_11_d0, x_79_2_11_d1, x_79_2_11_d2, x_79_2_11_d3, x_79_2_11_d4, x_79_2_12_d0, x_79_2_12_d1, x_79_2_12_d2, x_79_2_12_d3, x_79_2_12_d4, x_6_3, x_80_2_d0, x_80_2_d1, x_80_2_d2, x_80_2_d3, x_80_2_d4, x_7_5_I, x_7_5_A, x_7_5_U, x_79_1_12_d0, x_79_1_12_d1, x_79_1_12_d2, x_79_1_12_d3, x_79_1_12_d4, x_7_6_I, x_7_6_A, x_7_6_U, x_4_5, x_69, x_42, x_4_6, x_23, x_32, x_68, x_60, x_79_1_11_d0, x_79_1_11_d1, x_79_1_11_d2, x_79_1_11_d3, x_79_1_11_d4, x_80_4_d0, x_80_4_d1, x_80_4_d2, x_80_4_d3, x_80_4_d4, x_79_3_12_d0, x_79_3_12_d1, x_79_3_12_d2, x_79_3_12_d3, x_79_3_12_d4, x_2, x_80_3_d0, x_80_3_d1, x_80_3_d2, x_80_3_d3, x_80_3_d4, x_80_5_d0, x_80_5_d1, x_80_5_d2, x_80_5_d3, x_80_5_d4, x_79_4_12_d0, x_79_4_12_d1, x_79_4_12_d2, x_79_4_12_d3, x_79_4_12_d4, x_10_4_I, x_10_4_A, x_10_4_U, cb_ri, cb_rl, cb_rv, cb_th, cb_ite, ps_s, ps_n, u_368_2516, u_368_2552, u_368_2569, o1, o2, o3, o4, o5, wr, cb_r1, r1, tc, q2, ht0, Int.reduceEq, Int.reduceLT, Int.reduceLE, reduceIte, Int.reduceAdd, Int.reduceSub, Int.reduceMul, Int.reduceNeg, Int.reduceToNat, Bool.false_eq_true, eq_self, if_pos, if_neg]
theorem lw_rests (lv i H N : Nat) (h : Hp) (I : INV h H N) (z : Zh h) (hb : h 27 0 0 ≤ 3072) (hi : (i : Int) + 6 ≤ h 27 0 0) : STEP lv 2572 i h := by
  intro v5 v6
  obtain ⟨o1, o2, o3, o4, o5⟩ := ob_i _ hb hi
  rcases (ag_rests (lv + 4) (lv + 5) H N (h 22 0 ((i : Int) + 1).toNat) h I) with ⟨v, h1, c1, h2, r1, r3, r5, I2, k1, k2⟩ | ⟨e, h1, c1, hT, b, h2, r1, r3, I2, k1, k2⟩
  · have c1 : cl (lv + 84) _ _ _ = _ := c1
    have r1 : cl (lv + 85) 294 [aA 12 0, aI (h 22 0 ((i : Int) + 1).toNat)] _ = _ := r1
    have tc := thrown_c (lv + 84) h2
    rw [r3] at tc
    have wr := wa_rests (lv + 83) (h 22 0 ((i : Int) + 1).toNat) h h1 v c1
    obtain ⟨q2, q7⟩ := Kh_o (t := 25) (k := 0) (j := 0) (v := v) (K_ri c1 (Kh_self h)) (by omega)
    refine ⟨0, h2, aI 0, aI v, by omega, ⟨I2, Z_ri r1 (Zh_o (Z_ri c1 z) (by omega)), fun j => k1 j, k2⟩, ?_⟩
    rw [addc_0]
    generalize hset h1 25 0 0 v = g1 at *
    simp (disch := omega) only [x_1, x_7_4_I, x_7_4_A, x_7_4_U, x_61, x_4_4, x_6_0, x_54, x_12, x_66, x_53, x_17, x_6_1, x_11, x_79_6_11_d0, x_79_6_11_d1, x_79_6_11_d2, x_79_6_11_d3, x_79_6_11_d4, x_6_2, x_79_6_12_d0, x_79_6_12_d1, x_79_6_12_d2, x_79_6_12_d3, x_79_6_12_d4, x_62, x_85, x_79_2_11_d0, x_79_2_11_d1, x_79_2_11_d2, x_79_2_11_d3, x_79_2_11_d4, x_79_2_12_d0, x_79_2_12_d1, x_79_2_12_d2, x_79_2_12_d3, x_79_2_12_d4, x_6_3, x_80_2_d0, x_80_2_d1, x_80_2_d2, x_80_2_d3, x_80_2_d4, x_7_5_I, x_7_5_A, x_7_5_U, x_79_1_12_d0, x_79_1_12_d1, x_79_1_12_d2, x_79_1_12_d3, x_79_1_12_d4, x_7_6_I, x_7_6_A, x_7_6_U, x_4_5, x_69, x_42, x_4_6, x_23, x_32, x_68, x_60, x_79_1_11_d0, x_79_1_11_d1, x_79_1_11_d2, x_79_1_11_d3, x_79_1_11_d4, x_80_4_d0, x_80_4_d1, x_80_4_d2, x_80_4_d3, x_80_4_d4, x_79_3_12_d0, x_79_3_12_d1, x_79_3_12_d2, x_79_3_12_d3, x_79_3_12_d4, x_2, x_80_3_d0, x_80_3_d1, x_80_3_d2, x_80_3_d3, x_80_3_d4, x_80_5_d0, x_80_5_d1, x_80_5_d2, x_80_5_d3, x_80_5_d4, x_79_4_12_d0, x_79_4_12_d1, x_79_4_12_d2, x_79_4_12_d3, x_79_4_12_d4, x_10_4_I, x_10_4_A, x_10_4_U, cb_ri, cb_rl, cb_rv, cb_th, cb_ite, ps_s, ps_n, u_368_2572, u_368_2608, u_368_2625, o1, o2, o3, o4, o5, wr, r1, tc, r5, q2, jc_self, Int.reduceEq, Int.reduceLT, Int.reduceLE, reduceIte, Int.reduceAdd, Int.reduceSub, Int.reduceMul, Int.reduceNeg, Int.reduceToNat, Bool.false_eq_true, eq_self, if_pos, if_neg]
  · have c1 : cl (lv + 84) _ _ _ = _ := c1
    have r1 : cl (lv + 85) 294 [aA 12 0, aI (h 22 0 ((i : Int) + 1).toNat)] _ = _ := r1
    have tc := thrown_c (lv + 84) h2
    rw [r3] at tc
    have wr := wb_rests (lv + 83) (h 22 0 ((i : Int) + 1).toNat) h h1 e c1 hT
    obtain ⟨q2, q7⟩ := K_th c1 (Kh_self h)
    refine ⟨1, h2, aI (t2 e : Int), aI b, by omega, ⟨I2, Z_ri r1 (Z_th c1 z), fun j => k1 j, k2⟩, ?_⟩
    generalize t2 e = te at *
    have ht0 : ¬ (te : Int) = 0 := by omega
    simp (disch := omega) only [x_1, x_7_4_I, x_7_4_A, x_7_4_U, x_61, x_4_4, x_6_0, x_54, x_12, x_66, x_53, x_17, x_6_1, x_11, x_79_6_11_d0, x_79_6_11_d1, x_79_6_11_d2, x_79_6_11_d3, x_79_6_11_d4, x_6_2, x_79_6_12_d0, x_79_6_12_d1, x_79_6_12_d2, x_79_6_12_d3, x_79_6_12_d4, x_62, x_85, x_79_2_11_d0, x_79_2_11_d1, x_79_2_11_d2, x_79_2_11_d3, x_79_2_11_d4, x_79_2_12_d0, x_79_2_12_d1, x_79_2_12_d2, x_79_2_12_d3, x_79_2_12_d4, x_6_3, x_80_2_d0, x_80_2_d1, x_80_2_d2, x_80_2_d3, x_80_2_d4, x_7_5_I, x_7_5_A, x_7_5_U, x_79_1_12_d0, x_79_1_12_d1, x_79_1_12_d2, x_79_1_12_d3, x_79_1_12_d4, x_7_6_I, x_7_6_A, x_7_6_U, x_4_5, x_69, x_42, x_4_6, x_23, x_32, x_68, x_60, x_79_1_11_d0, x_79_1_11_d1, x_79_1_11_d2, x_79_1_11_d3, x_79_1_11_d4, x_80_4_d0, x_80_4_d1, x_80_4_d2, x_80_4_d3, x_80_4_d4, x_79_3_12_d0, x_79_3_12_d1, x_79_3_12_d2, x_79_3_12_d3, x_79_3_12_d4, x_2, x_80_3_d0, x_80_3_d1, x_80_3_d2, x_80_3_d3, x_80_3_d4, x_80_5_d0, x_80_5_d1, x_80_5_d2, x_80_5_d3, x_80_5_d4, x_79_4_12_d0, x_79_4_12_d1, x_79_4_12_d2, x_79_4_12_d3, x_79_4_12_d4, x_10_4_I, x_10_4_A, x_10_4_U, cb_ri, cb_rl, cb_rv, cb_th, cb_ite, ps_s, ps_n, u_368_2572, u_368_2608, u_368_2625, o1, o2, o3, o4, o5, wr, cb_r1, r1, tc, q2, ht0, Int.reduceEq, Int.reduceLT, Int.reduceLE, reduceIte, Int.reduceAdd, Int.reduceSub, Int.reduceMul, Int.reduceNeg, Int.reduceToNat, Bool.false_eq_true, eq_self, if_pos, if_neg]
