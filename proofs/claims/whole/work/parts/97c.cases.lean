/-! more cases -/
theorem lw_swap (lv i H N : Nat) (h : Hp) (I : INV h H N) (z : Zh h) (hb : h 27 0 0 ≤ 3072) (hi : (i : Int) + 6 ≤ h 27 0 0) : STEP lv 1276 i h := by
  intro v5 v6
  obtain ⟨o1, o2, o3, o4, o5⟩ := ob_i _ hb hi
  rcases (ag_swap (lv + 4) (lv + 5) H N (h 22 0 ((i : Int) + 1).toNat) (h 22 0 ((i : Int) + 2).toNat) h I) with ⟨h1, c1, h2, r1, r3, I2, k1, k2⟩ | ⟨e, h1, c1, hT, h2, r1, r3, I2, k1, k2⟩
  · have c1 : cl (lv + 84) _ _ _ = _ := c1
    have r1 : cl (lv + 85) 247 [aA 12 0, aI (h 22 0 ((i : Int) + 1).toNat), aI (h 22 0 ((i : Int) + 2).toNat)] _ = _ := r1
    have tc := thrown_c (lv + 84) h2
    rw [r3] at tc
    have wr := wa_swap (lv + 83) (h 22 0 ((i : Int) + 1).toNat) (h 22 0 ((i : Int) + 2).toNat) h h1 c1
    obtain ⟨q2, q7⟩ := K_rv c1 (Kh_self h)
    refine ⟨0, h2, aI 0, v6, by omega, ⟨I2, Z_rv r1 (Z_rv c1 z), fun j => k1 j, k2⟩, ?_⟩
    rw [addc_0]
    simp (disch := omega) only [x_1, x_7_4_I, x_7_4_A, x_7_4_U, x_61, x_4_4, x_6_0, x_54, x_12, x_66, x_53, x_17, x_6_1, x_11, x_79_6_11_d0, x_79_6_11_d1, x_79_6_11_d2, x_79_6_11_d3, x_79_6_11_d4, x_6_2, x_79_6_12_d0, x_79_6_12_d1, x_79_6_12_d2, x_79_6_12_d3, x_79_6_12_d4, x_62, x_85, x_79_2_11_d0, x_79_2_11_d1, x_79_2_11_d2, x_79_2_11_d3, x_79_2_11_d4, x_79_2_12_d0, x_79_2_12_d1, x_79_2_12_d2, x_79_2_12_d3, x_79_2_12_d4, x_6_3, x_80_2_d0, x_80_2_d1, x_80_2_d2, x_80_2_d3, x_80_2_d4, x_7_5_I, x_7_5_A, x_7_5_U, x_79_1_12_d0, x_79_1_12_d1, x_79_1_12_d2, x_79_1_12_d3, x_79_1_12_d4, x_7_6_I, x_7_6_A, x_7_6_U, x_4_5, x_69, x_42, x_4_6, x_23, x_32, x_68, x_60, x_79_1_11_d0, x_79_1_11_d1, x_79_1_11_d2, x_79_1_11_d3, x_79_1_11_d4, x_80_4_d0, x_80_4_d1, x_80_4_d2, x_80_4_d3, x_80_4_d4, x_79_3_12_d0, x_79_3_12_d1, x_79_3_12_d2, x_79_3_12_d3, x_79_3_12_d4, x_2, x_80_3_d0, x_80_3_d1, x_80_3_d2, x_80_3_d3, x_80_3_d4, x_80_5_d0, x_80_5_d1, x_80_5_d2, x_80_5_d3, x_80_5_d4, x_79_4_12_d0, x_79_4_12_d1, x_79_4_12_d2, x_79_4_12_d3, x_79_4_12_d4, x_10_4_I, x_10_4_A, x_10_4_U, cb_ri, cb_rl, cb_rv, cb_th, cb_ite, ps_s, ps_n, u_368_1276, u_368_1321, o1, o2, o3, o4, o5, wr, r1, tc, q2, Int.reduceEq, Int.reduceLT, Int.reduceLE, reduceIte, Int.reduceAdd, Int.reduceSub, Int.reduceMul, Int.reduceNeg, Int.reduceToNat, Bool.false_eq_true, eq_self, if_pos, if_neg]
  · have c1 : cl (lv + 84) _ _ _ = _ := c1
    have r1 : cl (lv + 85) 247 [aA 12 0, aI (h 22 0 ((i : Int) + 1).toNat), aI (h 22 0 ((i : Int) + 2).toNat)] _ = _ := r1
    have tc := thrown_c (lv + 84) h2
    rw [r3] at tc
    have wr := wb_swap (lv + 83) (h 22 0 ((i : Int) + 1).toNat) (h 22 0 ((i : Int) + 2).toNat) h h1 e c1 hT
    obtain ⟨q2, q7⟩ := K_th c1 (Kh_self h)
    refine ⟨1, h2, aI (t20 e : Int), v6, by omega, ⟨I2, Z_rv r1 (Z_th c1 z), fun j => k1 j, k2⟩, ?_⟩
    generalize t20 e = te at *
    have ht0 : ¬ (te : Int) = 0 := by omega
    simp (disch := omega) only [x_1, x_7_4_I, x_7_4_A, x_7_4_U, x_61, x_4_4, x_6_0, x_54, x_12, x_66, x_53, x_17, x_6_1, x_11, x_79_6_11_d0, x_79_6_11_d1, x_79_6_11_d2, x_79_6_11_d3, x_79_6_11_d4, x_6_2, x_79_6_12_d0, x_79_6_12_d1, x_79_6_12_d2, x_79_6_12_d3, x_79_6_12_d4, x_62, x_85, x_79_2_11_d0, x_79_2_11_d1, x_79_2_11_d2, x_79_2_11_d3, x_79_2_11_d4, x_79_2_12_d0, x_79_2_12_d1, x_79_2_12_d2, x_79_2_12_d3, x_79_2_12_d4, x_6_3, x_80_2_d0, x_80_2_d1, x_80_2_d2, x_80_2_d3, x_80_2_d4, x_7_5_I, x_7_5_A, x_7_5_U, x_79_1_12_d0, x_79_1_12_d1, x_79_1_12_d2, x_79_1_12_d3, x_79_1_12_d4, x_7_6_I, x_7_6_A, x_7_6_U, x_4_5, x_69, x_42, x_4_6, x_23, x_32, x_68, x_60, x_79_1_11_d0, x_79_1_11_d1, x_79_1_11_d2, x_79_1_11_d3, x_79_1_11_d4, x_80_4_d0, x_80_4_d1, x_80_4_d2, x_80_4_d3, x_80_4_d4, x_79_3_12_d0, x_79_3_12_d1, x_79_3_12_d2, x_79_3_12_d3, x_79_3_12_d4, x_2, x_80_3_d0, x_80_3_d1, x_80_3_d2, x_80_3_d3, x_80_3_d4, x_80_5_d0, x_80_5_d1, x_80_5_d2, x_80_5_d3, x_80_5_d4, x_79_4_12_d0, x_79_4_12_d1, x_79_4_12_d2, x_79_4_12_d3, x_79_4_12_d4, x_10_4_I, x_10_4_A, x_10_4_U, cb_ri, cb_rl, cb_rv, cb_th, cb_ite, ps_s, ps_n, u_368_1276, u_368_1321, o1, o2, o3, o4, o5, wr, cb_r1, r1, tc, q2, ht0, Int.reduceEq, Int.reduceLT, Int.reduceLE, reduceIte, Int.reduceAdd, Int.reduceSub, Int.reduceMul, Int.reduceNeg, Int.reduceToNat, Bool.false_eq_true, eq_self, if_pos, if_neg]
theorem lw_of (lv i H N : Nat) (h : Hp) (I : INV h H N) (z : Zh h) (hb : h 27 0 0 ≤ 3072) (hi : (i : Int) + 6 ≤ h 27 0 0) : STEP lv 1324 i h := by
  intro v5 v6
  obtain ⟨o1, o2, o3, o4, o5⟩ := ob_i _ hb hi
  rcases (ag_of (lv + 4) (lv + 5) H N (h 22 0 ((i : Int) + 1).toNat) h I) with ⟨v, h1, c1, h2, r1, r3, r5, I2, k1, k2⟩ | ⟨e, h1, c1, hT, b, h2, r1, r3, I2, k1, k2⟩
  · have c1 : cl (lv + 84) _ _ _ = _ := c1
    have r1 : cl (lv + 85) 248 [aA 12 0, aI (h 22 0 ((i : Int) + 1).toNat)] _ = _ := r1
    have tc := thrown_c (lv + 84) h2
    rw [r3] at tc
    have wr := wa_of (lv + 83) (h 22 0 ((i : Int) + 1).toNat) h h1 v c1
    obtain ⟨q2, q7⟩ := Kh_o (t := 25) (k := 0) (j := 0) (v := v) (K_ri c1 (Kh_self h)) (by omega)
    refine ⟨0, h2, aI 0, aI v, by omega, ⟨I2, Z_ri r1 (Zh_o (Z_ri c1 z) (by omega)), fun j => k1 j, k2⟩, ?_⟩
    rw [addc_0]
    generalize hset h1 25 0 0 v = g1 at *
    simp (disch := omega) only [x_1, x_7_4_I, x_7_4_A, x_7_4_U, x_61, x_4_4, x_6_0, x_54, x_12, x_66, x_53, x_17, x_6_1, x_11, x_79_6_11_d0, x_79_6_11_d1, x_79_6_11_d2, x_79_6_11_d3, x_79_6_11_d4, x_6_2, x_79_6_12_d0, x_79_6_12_d1, x_79_6_12_d2, x_79_6_12_d3, x_79_6_12_d4, x_62, x_85, x_79_2_11_d0, x_79_2_11_d1, x_79_2_11_d2, x_79_2_11_d3, x_79_2_11_d4, x_79_2_12_d0, x_79_2_12_d1, x_79_2_12_d2, x_79_2_12_d3, x_79_2_12_d4, x_6_3, x_80_2_d0, x_80_2_d1, x_80_2_d2, x_80_2_d3, x_80_2_d4, x_7_5_I, x_7_5_A, x_7_5_U, x_79_1_12_d0, x_79_1_12_d1, x_79_1_12_d2, x_79_1_12_d3, x_79_1_12_d4, x_7_6_I, x_7_6_A, x_7_6_U, x_4_5, x_69, x_42, x_4_6, x_23, x_32, x_68, x_60, x_79_1_11_d0, x_79_1_11_d1, x_79_1_11_d2, x_79_1_11_d3, x_79_1_11_d4, x_80_4_d0, x_80_4_d1, x_80_4_d2, x_80_4_d3, x_80_4_d4, x_79_3_12_d0, x_79_3_12_d1, x_79_3_12_d2, x_79_3_12_d3, x_79_3_12_d4, x_2, x_80_3_d0, x_80_3_d1, x_80_3_d2, x_80_3_d3, x_80_3_d4, x_80_5_d0, x_80_5_d1, x_80_5_d2, x_80_5_d3, x_80_5_d4, x_79_4_12_d0, x_79_4_12_d1, x_79_4_12_d2, x_79_4_12_d3, x_79_4_12_d4, x_10_4_I, x_10_4_A, x_10_4_U, cb_ri, cb_rl, cb_rv, cb_th, cb_ite, ps_s, ps_n, u_368_1324, u_368_1360, u_368_1377, o1, o2, o3, o4, o5, wr, r1, tc, r5, q2, jc_self, Int.reduceEq, Int.reduceLT, Int.reduceLE, reduceIte, Int.reduceAdd, Int.reduceSub, Int.reduceMul, Int.reduceNeg, Int.reduceToNat, Bool.false_eq_true, eq_self, if_pos, if_neg]
  · have c1 : cl (lv + 84) _ _ _ = _ := c1
    have r1 : cl (lv + 85) 248 [aA 12 0, aI (h 22 0 ((i : Int) + 1).toNat)] _ = _ := r1
    have tc := thrown_c (lv + 84) h2
    rw [r3] at tc
    have wr := wb_of (lv + 83) (h 22 0 ((i : Int) + 1).toNat) h h1 e c1 hT
    obtain ⟨q2, q7⟩ := K_th c1 (Kh_self h)
    refine ⟨1, h2, aI (t2 e : Int), aI b, by omega, ⟨I2, Z_ri r1 (Z_th c1 z), fun j => k1 j, k2⟩, ?_⟩
    generalize t2 e = te at *
    have ht0 : ¬ (te : Int) = 0 := by omega
    simp (disch := omega) only [x_1, x_7_4_I, x_7_4_A, x_7_4_U, x_61, x_4_4, x_6_0, x_54, x_12, x_66, x_53, x_17, x_6_1, x_11, x_79_6_11_d0, x_79_6_11_d1, x_79_6_11_d2, x_79_6_11_d3, x_79_6_11_d4, x_6_2, x_79_6_12_d0, x_79_6_12_d1, x_79_6_12_d2, x_79_6_12_d3, x_79_6_12_d4, x_62, x_85, x_79_2_11_d0, x_79_2_11_d1, x_79_2_11_d2, x_79_2_11_d3, x_79_2_11_d4, x_79_2_12_d0, x_79_2_12_d1, x_79_2_12_d2, x_79_2_12_d3, x_79_2_12_d4, x_6_3, x_80_2_d0, x_80_2_d1, x_80_2_d2, x_80_2_d3, x_80_2_d4, x_7_5_I, x_7_5_A, x_7_5_U, x_79_1_12_d0, x_79_1_12_d1, x_79_1_12_d2, x_79_1_12_d3, x_79_1_12_d4, x_7_6_I, x_7_6_A, x_7_6_U, x_4_5, x_69, x_42, x_4_6, x_23, x_32, x_68, x_60, x_79_1_11_d0, x_79_1_11_d1, x_79_1_11_d2, x_79_1_11_d3, x_79_1_11_d4, x_80_4_d0, x_80_4_d1, x_80_4_d2, x_80_4_d3, x_80_4_d4, x_79_3_12_d0, x_79_3_12_d1, x_79_3_12_d2, x_79_3_12_d3, x_79_3_12_d4, x_2, x_80_3_d0, x_80_3_d1, x_80_3_d2, x_80_3_d3, x_80_3_d4, x_80_5_d0, x_80_5_d1, x_80_5_d2, x_80_5_d3, x_80_5_d4, x_79_4_12_d0, x_79_4_12_d1, x_79_4_12_d2, x_79_4_12_d3, x_79_4_12_d4, x_10_4_I, x_10_4_A, x_10_4_U, cb_ri, cb_rl, cb_rv, cb_th, cb_ite, ps_s, ps_n, u_368_1324, u_368_1360, u_368_1377, o1, o2, o3, o4, o5, wr, cb_r1, r1, tc, q2, ht0, Int.reduceEq, Int.reduceLT, Int.reduceLE, reduceIte, Int.reduceAdd, Int.reduceSub, Int.reduceMul, Int.reduceNeg, Int.reduceToNat, Bool.false_eq_true, eq_self, if_pos, if_neg]
theorem lw_holds (lv i H N : Nat) (h : Hp) (I : INV h H N) (z : Zh h) (hb : h 27 0 0 ≤ 3072) (hi : (i : Int) + 6 ≤ h 27 0 0) : STEP lv 1380 i h := by
  intro v5 v6
  obtain ⟨o1, o2, o3, o4, o5⟩ := ob_i _ hb hi
  rcases (ag_holds (lv + 4) (lv + 5) H N (h 22 0 ((i : Int) + 1).toNat) (h 22 0 ((i : Int) + 2).toNat) h I) with ⟨v, h1, c1, h2, r1, r3, r5, I2, k1, k2⟩ | ⟨e, h1, c1, hT, b, h2, r1, r3, I2, k1, k2⟩
  · have c1 : cl (lv + 84) _ _ _ = _ := c1
    have r1 : cl (lv + 85) 249 [aA 12 0, aI (h 22 0 ((i : Int) + 1).toNat), aI (h 22 0 ((i : Int) + 2).toNat)] _ = _ := r1
    have tc := thrown_c (lv + 84) h2
    rw [r3] at tc
    have wr := wa_holds (lv + 83) (h 22 0 ((i : Int) + 1).toNat) (h 22 0 ((i : Int) + 2).toNat) h h1 v c1
    obtain ⟨q2, q7⟩ := Kh_o (t := 25) (k := 0) (j := 0) (v := v) (K_ri c1 (Kh_self h)) (by omega)
    refine ⟨0, h2, aI 0, aI v, by omega, ⟨I2, Z_ri r1 (Zh_o (Z_ri c1 z) (by omega)), fun j => k1 j, k2⟩, ?_⟩
    rw [addc_0]
    generalize hset h1 25 0 0 v = g1 at *
    simp (disch := omega) only [x_1, x_7_4_I, x_7_4_A, x_7_4_U, x_61, x_4_4, x_6_0, x_54, x_12, x_66, x_53, x_17, x_6_1, x_11, x_79_6_11_d0, x_79_6_11_d1, x_79_6_11_d2, x_79_6_11_d3, x_79_6_11_d4, x_6_2, x_79_6_12_d0, x_79_6_12_d1, x_79_6_12_d2, x_79_6_12_d3, x_79_6_12_d4, x_62, x_85, x_79_2_11_d0, x_79_2_11_d1, x_79_2_11_d2, x_79_2_11_d3, x_79_2_11_d4, x_79_2_12_d0, x_79_2_12_d1, x_79_2_12_d2, x_79_2_12_d3, x_79_2_12_d4, x_6_3, x_80_2_d0, x_80_2_d1, x_80_2_d2, x_80_2_d3, x_80_2_d4, x_7_5_I, x_7_5_A, x_7_5_U, x_79_1_12_d0, x_79_1_12_d1, x_79_1_12_d2, x_79_1_12_d3, x_79_1_12_d4, x_7_6_I, x_7_6_A, x_7_6_U, x_4_5, x_69, x_42, x_4_6, x_23, x_32, x_68, x_60, x_79_1_11_d0, x_79_1_11_d1, x_79_1_11_d2, x_79_1_11_d3, x_79_1_11_d4, x_80_4_d0, x_80_4_d1, x_80_4_d2, x_80_4_d3, x_80_4_d4, x_79_3_12_d0, x_79_3_12_d1, x_79_3_12_d2, x_79_3_12_d3, x_79_3_12_d4, x_2, x_80_3_d0, x_80_3_d1, x_80_3_d2, x_80_3_d3, x_80_3_d4, x_80_5_d0, x_80_5_d1, x_80_5_d2, x_80_5_d3, x_80_5_d4, x_79_4_12_d0, x_79_4_12_d1, x_79_4_12_d2, x_79_4_12_d3, x_79_4_12_d4, x_10_4_I, x_10_4_A, x_10_4_U, cb_ri, cb_rl, cb_rv, cb_th, cb_ite, ps_s, ps_n, u_368_1380, u_368_1428, u_368_1445, o1, o2, o3, o4, o5, wr, r1, tc, r5, q2, jc_self, Int.reduceEq, Int.reduceLT, Int.reduceLE, reduceIte, Int.reduceAdd, Int.reduceSub, Int.reduceMul, Int.reduceNeg, Int.reduceToNat, Bool.false_eq_true, eq_self, if_pos, if_neg]
  · have c1 : cl (lv + 84) _ _ _ = _ := c1
    have r1 : cl (lv + 85) 249 [aA 12 0, aI (h 22 0 ((i : Int) + 1).toNat), aI (h 22 0 ((i : Int) + 2).toNat)] _ = _ := r1
    have tc := thrown_c (lv + 84) h2
    rw [r3] at tc
    have wr := wb_holds (lv + 83) (h 22 0 ((i : Int) + 1).toNat) (h 22 0 ((i : Int) + 2).toNat) h h1 e c1 hT
    obtain ⟨q2, q7⟩ := K_th c1 (Kh_self h)
    refine ⟨1, h2, aI (t2 e : Int), aI b, by omega, ⟨I2, Z_ri r1 (Z_th c1 z), fun j => k1 j, k2⟩, ?_⟩
    generalize t2 e = te at *
    have ht0 : ¬ (te : Int) = 0 := by omega
    simp (disch := omega) only [x_1, x_7_4_I, x_7_4_A, x_7_4_U, x_61, x_4_4, x_6_0, x_54, x_12, x_66, x_53, x_17, x_6_1, x_11, x_79_6_11_d0, x_79_6_11_d1, x_79_6_11_d2, x_79_6_11_d3, x_79_6_11_d4, x_6_2, x_79_6_12_d0, x_79_6_12_d1, x_79_6_12_d2, x_79_6_12_d3, x_79_6_12_d4, x_62, x_85, x_79_2_11_d0, x_79_2_11_d1, x_79_2_11_d2, x_79_2_11_d3, x_79_2_11_d4, x_79_2_12_d0, x_79_2_12_d1, x_79_2_12_d2, x_79_2_12_d3, x_79_2_12_d4, x_6_3, x_80_2_d0, x_80_2_d1, x_80_2_d2, x_80_2_d3, x_80_2_d4, x_7_5_I, x_7_5_A, x_7_5_U, x_79_1_12_d0, x_79_1_12_d1, x_79_1_12_d2, x_79_1_12_d3, x_79_1_12_d4, x_7_6_I, x_7_6_A, x_7_6_U, x_4_5, x_69, x_42, x_4_6, x_23, x_32, x_68, x_60, x_79_1_11_d0, x_79_1_11_d1, x_79_1_11_d2, x_79_1_11_d3, x_79_1_11_d4, x_80_4_d0, x_80_4_d1, x_80_4_d2, x_80_4_d3, x_80_4_d4, x_79_3_12_d0, x_79_3_12_d1, x_79_3_12_d2, x_79_3_12_d3, x_79_3_12_d4, x_2, x_80_3_d0, x_80_3_d1, x_80_3_d2, x_80_3_d3, x_80_3_d4, x_80_5_d0, x_80_5_d1, x_80_5_d2, x_80_5_d3, x_80_5_d4, x_79_4_12_d0, x_79_4_12_d1, x_79_4_12_d2, x_79_4_12_d3, x_79_4_12_d4, x_10_4_I, x_10_4_A, x_10_4_U, cb_ri, cb_rl, cb_rv, cb_th, cb_ite, ps_s, ps_n, u_368_1380, u_368_1428, u_368_1445, o1, o2, o3, o4, o5, wr, cb_r1, r1, tc, q2, ht0, Int.reduceEq, Int.reduceLT, Int.reduceLE, reduceIte, Int.reduceAdd, Int.reduceSub, Int.reduceMul, Int.reduceNeg, Int.reduceToNat, Bool.false_eq_true, eq_self, if_pos, if_neg]
theorem lw_left (lv i H N : Nat) (h : Hp) (I : INV h H N) (z : Zh h) (hb : h 27 0 0 ≤ 3072) (hi : (i : Int) + 6 ≤ h 27 0 0) : STEP lv 1448 i h := by
  intro v5 v6
  obtain ⟨o1, o2, o3, o4, o5⟩ := ob_i _ hb hi
  rcases (ag_left (lv + 4) (lv + 5) H N (h 22 0 ((i : Int) + 1).toNat) h I) with ⟨v, h1, c1, h2, r1, r3, r5, I2, k1, k2⟩ | ⟨e, h1, c1, hT, b, h2, r1, r3, I2, k1, k2⟩
  · have c1 : cl (lv + 84) _ _ _ = _ := c1
    have r1 : cl (lv + 85) 251 [aA 12 0, aI (h 22 0 ((i : Int) + 1).toNat)] _ = _ := r1
    have tc := thrown_c (lv + 84) h2
    rw [r3] at tc
    have wr := wa_left (lv + 83) (h 22 0 ((i : Int) + 1).toNat) h h1 v c1
    obtain ⟨q2, q7⟩ := Kh_o (t := 25) (k := 0) (j := 0) (v := v) (K_ri c1 (Kh_self h)) (by omega)
    refine ⟨0, h2, aI 0, aI v, by omega, ⟨I2, Z_ri r1 (Zh_o (Z_ri c1 z) (by omega)), fun j => k1 j, k2⟩, ?_⟩
    rw [addc_0]
    generalize hset h1 25 0 0 v = g1 at *
    simp (disch := omega) only [x_1, x_7_4_I, x_7_4_A, x_7_4_U, x_61, x_4_4, x_6_0, x_54, x_12, x_66, x_53, x_17, x_6_1, x_11, x_79_6_11_d0, x_79_6_11_d1, x_79_6_11_d2, x_79_6_11_d3, x_79_6_11_d4, x_6_2, x_79_6_12_d0, x_79_6_12_d1, x_79_6_12_d2, x_79_6_12_d3, x_79_6_12_d4, x_62, x_85, x_79_2_11_d0, x_79_2_11_d1, x_79_2_11_d2, x_79_2_11_d3, x_79_2_11_d4, x_79_2_12_d0, x_79_2_12_d1, x_79_2_12_d2, x_79_2_12_d3, x_79_2_12_d4, x_6_3, x_80_2_d0, x_80_2_d1, x_80_2_d2, x_80_2_d3, x_80_2_d4, x_7_5_I, x_7_5_A, x_7_5_U, x_79_1_12_d0, x_79_1_12_d1, x_79_1_12_d2, x_79_1_12_d3, x_79_1_12_d4, x_7_6_I, x_7_6_A, x_7_6_U, x_4_5, x_69, x_42, x_4_6, x_23, x_32, x_68, x_60, x_79_1_11_d0, x_79_1_11_d1, x_79_1_11_d2, x_79_1_11_d3, x_79_1_11_d4, x_80_4_d0, x_80_4_d1, x_80_4_d2, x_80_4_d3, x_80_4_d4, x_79_3_12_d0, x_79_3_12_d1, x_79_3_12_d2, x_79_3_12_d3, x_79_3_12_d4, x_2, x_80_3_d0, x_80_3_d1, x_80_3_d2, x_80_3_d3, x_80_3_d4, x_80_5_d0, x_80_5_d1, x_80_5_d2, x_80_5_d3, x_80_5_d4, x_79_4_12_d0, x_79_4_12_d1, x_79_4_12_d2, x_79_4_12_d3, x_79_4_12_d4, x_10_4_I, x_10_4_A, x_10_4_U, cb_ri, cb_rl, cb_rv, cb_th, cb_ite, ps_s, ps_n, u_368_1448, u_368_1484, u_368_1501, o1, o2, o3, o4, o5, wr, r1, tc, r5, q2, jc_self, Int.reduceEq, Int.reduceLT, Int.reduceLE, reduceIte, Int.reduceAdd, Int.reduceSub, Int.reduceMul, Int.reduceNeg, Int.reduceToNat, Bool.false_eq_true, eq_self, if_pos, if_neg]
  · have c1 : cl (lv + 84) _ _ _ = _ := c1
    have r1 : cl (lv + 85) 251 [aA 12 0, aI (h 22 0 ((i : Int) + 1).toNat)] _ = _ := r1
    have tc := thrown_c (lv + 84) h2
    rw [r3] at tc
    have wr := wb_left (lv + 83) (h 22 0 ((i : Int) + 1).toNat) h h1 e c1 hT
    obtain ⟨q2, q7⟩ := K_th c1 (Kh_self h)
    refine ⟨1, h2, aI (t2 e : Int), aI b, by omega, ⟨I2, Z_ri r1 (Z_th c1 z), fun j => k1 j, k2⟩, ?_⟩
    generalize t2 e = te at *
    have ht0 : ¬ (te : Int) = 0 := by omega
    simp (disch := omega) only [x_1, x_7_4_I, x_7_4_A, x_7_4_U, x_61, x_4_4, x_6_0, x_54, x_12, x_66, x_53, x_17, x_6_1, x_11, x_79_6_11_d0, x_79_6_11_d1, x_79_6_11_d2, x_79_6_11_d3, x_79_6_11_d4, x_6_2, x_79_6_12_d0, x_79_6_12_d1, x_79_6_12_d2, x_79_6_12_d3, x_79_6_12_d4, x_62, x_85, x_79_2_11_d0, x_79_2_11_d1, x_79_2_11_d2, x_79_2_11_d3, x_79_2_11_d4, x_79_2_12_d0, x_79_2_12_d1, x_79_2_12_d2, x_79_2_12_d3, x_79_2_12_d4, x_6_3, x_80_2_d0, x_80_2_d1, x_80_2_d2, x_80_2_d3, x_80_2_d4, x_7_5_I, x_7_5_A, x_7_5_U, x_79_1_12_d0, x_79_1_12_d1, x_79_1_12_d2, x_79_1_12_d3, x_79_1_12_d4, x_7_6_I, x_7_6_A, x_7_6_U, x_4_5, x_69, x_42, x_4_6, x_23, x_32, x_68, x_60, x_79_1_11_d0, x_79_1_11_d1, x_79_1_11_d2, x_79_1_11_d3, x_79_1_11_d4, x_80_4_d0, x_80_4_d1, x_80_4_d2, x_80_4_d3, x_80_4_d4, x_79_3_12_d0, x_79_3_12_d1, x_79_3_12_d2, x_79_3_12_d3, x_79_3_12_d4, x_2, x_80_3_d0, x_80_3_d1, x_80_3_d2, x_80_3_d3, x_80_3_d4, x_80_5_d0, x_80_5_d1, x_80_5_d2, x_80_5_d3, x_80_5_d4, x_79_4_12_d0, x_79_4_12_d1, x_79_4_12_d2, x_79_4_12_d3, x_79_4_12_d4, x_10_4_I, x_10_4_A, x_10_4_U, cb_ri, cb_rl, cb_rv, cb_th, cb_ite, ps_s, ps_n, u_368_1448, u_368_1484, u_368_1501, o1, o2, o3, o4, o5, wr, cb_r1, r1, tc, q2, ht0, Int.reduceEq, Int.reduceLT, Int.reduceLE, reduceIte, Int.reduceAdd, Int.reduceSub, Int.reduceMul, Int.reduceNeg, Int.reduceToNat, Bool.false_eq_true, eq_self, if_pos, if_neg]
theorem lw_go (lv i H N : Nat) (h : Hp) (I : INV h H N) (z : Zh h) (hb : h 27 0 0 ≤ 3072) (hi : (i : Int) + 6 ≤ h 27 0 0) : STEP lv 1504 i h := by
  intro v5 v6
  obtain ⟨o1, o2, o3, o4, o5⟩ := ob_i _ hb hi
  rcases (ag_go (lv + 4) (lv + 5) H N (h 22 0 ((i : Int) + 1).toNat) h I) with ⟨v, h1, c1, h2, r1, r3, r5, I2, k1, k2⟩ | ⟨e, h1, c1, hT, b, h2, r1, r3, I2, k1, k2⟩
  · have c1 : cl (lv + 84) _ _ _ = _ := c1
    have r1 : cl (lv + 85) 252 [aA 12 0, aI (h 22 0 ((i : Int) + 1).toNat)] _ = _ := r1
    have tc := thrown_c (lv + 84) h2
    rw [r3] at tc
    have wr := wa_go (lv + 83) (h 22 0 ((i : Int) + 1).toNat) h h1 v c1
    obtain ⟨q2, q7⟩ := Kh_o (t := 25) (k := 0) (j := 0) (v := v) (K_ri c1 (Kh_self h)) (by omega)
    refine ⟨0, h2, aI 0, aI v, by omega, ⟨I2, Z_ri r1 (Zh_o (Z_ri c1 z) (by omega)), fun j => k1 j, k2⟩, ?_⟩
    rw [addc_0]
    generalize hset h1 25 0 0 v = g1 at *
    simp (disch := omega) only [x_1, x_7_4_I, x_7_4_A, x_7_4_U, x_61, x_4_4, x_6_0, x_54, x_12, x_66, x_53, x_17, x_6_1, x_11, x_79_6_11_d0, x_79_6_11_d1, x_79_6_11_d2, x_79_6_11_d3, x_79_6_11_d4, x_6_2, x_79_6_12_d0, x_79_6_12_d1, x_79_6_12_d2, x_79_6_12_d3, x_79_6_12_d4, x_62, x_85, x_79_2_11_d0, x_79_2_11_d1, x_79_2_11_d2, x_79_2_11_d3, x_79_2_11_d4, x_79_2_12_d0, x_79_2_12_d1, x_79_2_12_d2, x_79_2_12_d3, x_79_2_12_d4, x_6_3, x_80_2_d0, x_80_2_d1, x_80_2_d2, x_80_2_d3, x_80_2_d4, x_7_5_I, x_7_5_A, x_7_5_U, x_79_1_12_d0, x_79_1_12_d1, x_79_1_12_d2, x_79_1_12_d3, x_79_1_12_d4, x_7_6_I, x_7_6_A, x_7_6_U, x_4_5, x_69, x_42, x_4_6, x_23, x_32, x_68, x_60, x_79_1_11_d0, x_79_1_11_d1, x_79_1_11_d2, x_79_1_11_d3, x_79_1_11_d4, x_80_4_d0, x_80_4_d1, x_80_4_d2, x_80_4_d3, x_80_4_d4, x_79_3_12_d0, x_79_3_12_d1, x_79_3_12_d2, x_79_3_12_d3, x_79_3_12_d4, x_2, x_80_3_d0, x_80_3_d1, x_80_3_d2, x_80_3_d3, x_80_3_d4, x_80_5_d0, x_80_5_d1, x_80_5_d2, x_80_5_d3, x_80_5_d4, x_79_4_12_d0, x_79_4_12_d1, x_79_4_12_d2, x_79_4_12_d3, x_79_4_12_d4, x_10_4_I, x_10_4_A, x_10_4_U, cb_ri, cb_rl, cb_rv, cb_th, cb_ite, ps_s, ps_n, u_368_1504, u_368_1540, u_368_1557, o1, o2, o3, o4, o5, wr, r1, tc, r5, q2, jc_self, Int.reduceEq, Int.reduceLT, Int.reduceLE, reduceIte, Int.reduceAdd, Int.reduceSub, Int.reduceMul, Int.reduceNeg, Int.reduceToNat, Bool.false_eq_true, eq_self, if_pos, if_neg]
  · have c1 : cl (lv + 84) _ _ _ = _ := c1
    have r1 : cl (lv + 85) 252 [aA 12 0, aI (h 22 0 ((i : Int) + 1).toNat)] _ = _ := r1
    have tc := thrown_c (lv + 84) h2
    rw [r3] at tc
    have wr := wb_go (lv + 83) (h 22 0 ((i : Int) + 1).toNat) h h1 e c1 hT
    obtain ⟨q2, q7⟩ := K_th c1 (Kh_self h)
    refine ⟨1, h2, aI (t2 e : Int), aI b, by omega, ⟨I2, Z_ri r1 (Z_th c1 z), fun j => k1 j, k2⟩, ?_⟩
    generalize t2 e = te at *
    have ht0 : ¬ (te : Int) = 0 := by omega
    simp (disch := omega) only [x_1, x_7_4_I, x_7_4_A, x_7_4_U, x_61, x_4_4, x_6_0, x_54, x_12, x_66, x_53, x_17, x_6_1, x_11, x_79_6_11_d0, x_79_6_11_d1, x_79_6_11_d2, x_79_6_11_d3, x_79_6_11_d4, x_6_2, x_79_6_12_d0, x_79_6_12_d1, x_79_6_12_d2, x_79_6_12_d3, x_79_6_12_d4, x_62, x_85, x_79_2_11_d0, x_79_2_11_d1, x_79_2_11_d2, x_79_2_11_d3, x_79_2_11_d4, x_79_2_12_d0, x_79_2_12_d1, x_79_2_12_d2, x_79_2_12_d3, x_79_2_12_d4, x_6_3, x_80_2_d0, x_80_2_d1, x_80_2_d2, x_80_2_d3, x_80_2_d4, x_7_5_I, x_7_5_A, x_7_5_U, x_79_1_12_d0, x_79_1_12_d1, x_79_1_12_d2, x_79_1_12_d3, x_79_1_12_d4, x_7_6_I, x_7_6_A, x_7_6_U, x_4_5, x_69, x_42, x_4_6, x_23, x_32, x_68, x_60, x_79_1_11_d0, x_79_1_11_d1, x_79_1_11_d2, x_79_1_11_d3, x_79_1_11_d4, x_80_4_d0, x_80_4_d1, x_80_4_d2, x_80_4_d3, x_80_4_d4, x_79_3_12_d0, x_79_3_12_d1, x_79_3_12_d2, x_79_3_12_d3, x_79_3_12_d4, x_2, x_80_3_d0, x_80_3_d1, x_80_3_d2, x_80_3_d3, x_80_3_d4, x_80_5_d0, x_80_5_d1, x_80_5_d2, x_80_5_d3, x_80_5_d4, x_79_4_12_d0, x_79_4_12_d1, x_79_4_12_d2, x_79_4_12_d3, x_79_4_12_d4, x_10_4_I, x_10_4_A, x_10_4_U, cb_ri, cb_rl, cb_rv, cb_th, cb_ite, ps_s, ps_n, u_368_1504, u_368_1540, u_368_1557, o1, o2, o3, o4, o5, wr, cb_r1, r1, tc, q2, ht0, Int.reduceEq, Int.reduceLT, Int.reduceLE, reduceIte, Int.reduceAdd, Int.reduceSub, Int.reduceMul, Int.reduceNeg, Int.reduceToNat, Bool.false_eq_true, eq_self, if_pos, if_neg]
theorem lw_third (lv i H N : Nat) (h : Hp) (I : INV h H N) (z : Zh h) (hb : h 27 0 0 ≤ 3072) (hi : (i : Int) + 6 ≤ h 27 0 0) : STEP lv 1560 i h := by
  intro v5 v6
  obtain ⟨o1, o2, o3, o4, o5⟩ := ob_i _ hb hi
  rcases (ag_third (lv + 4) (lv + 5) H N (h 22 0 ((i : Int) + 1).toNat) h I) with ⟨v, h1, c1, h2, r1, r3, r5, I2, k1, k2⟩ | ⟨e, h1, c1, hT, b, h2, r1, r3, I2, k1, k2⟩
  · have c1 : cl (lv + 84) _ _ _ = _ := c1
    have r1 : cl (lv + 85) 253 [aA 12 0, aI (h 22 0 ((i : Int) + 1).toNat)] _ = _ := r1
    have tc := thrown_c (lv + 84) h2
    rw [r3] at tc
    have wr := wa_third (lv + 83) (h 22 0 ((i : Int) + 1).toNat) h h1 v c1
    obtain ⟨q2, q7⟩ := Kh_o (t := 25) (k := 0) (j := 0) (v := v) (K_ri c1 (Kh_self h)) (by omega)
    refine ⟨0, h2, aI 0, aI v, by omega, ⟨I2, Z_ri r1 (Zh_o (Z_ri c1 z) (by omega)), fun j => k1 j, k2⟩, ?_⟩
    rw [addc_0]
    generalize hset h1 25 0 0 v = g1 at *
    simp (disch := omega) only [x_1, x_7_4_I, x_7_4_A, x_7_4_U, x_61, x_4_4, x_6_0, x_54, x_12, x_66, x_53, x_17, x_6_1, x_11, x_79_6_11_d0, x_79_6_11_d1, x_79_6_11_d2, x_79_6_11_d3, x_79_6_11_d4, x_6_2, x_79_6_12_d0, x_79_6_12_d1, x_79_6_12_d2, x_79_6_12_d3, x_79_6_12_d4, x_62, x_85, x_79_2_11_d0, x_79_2_11_d1, x_79_2_11_d2, x_79_2_11_d3, x_79_2_11_d4, x_79_2_12_d0, x_79_2_12_d1, x_79_2_12_d2, x_79_2_12_d3, x_79_2_12_d4, x_6_3, x_80_2_d0, x_80_2_d1, x_80_2_d2, x_80_2_d3, x_80_2_d4, x_7_5_I, x_7_5_A, x_7_5_U, x_79_1_12_d0, x_79_1_12_d1, x_79_1_12_d2, x_79_1_12_d3, x_79_1_12_d4, x_7_6_I, x_7_6_A, x_7_6_U, x_4_5, x_69, x_42, x_4_6, x_23, x_32, x_68, x_60, x_79_1_11_d0, x_79_1_11_d1, x_79_1_11_d2, x_79_1_11_d3, x_79_1_11_d4, x_80_4_d0, x_80_4_d1, x_80_4_d2, x_80_4_d3, x_80_4_d4, x_79_3_12_d0, x_79_3_12_d1, x_79_3_12_d2, x_79_3_12_d3, x_79_3_12_d4, x_2, x_80_3_d0, x_80_3_d1, x_80_3_d2, x_80_3_d3, x_80_3_d4, x_80_5_d0, x_80_5_d1, x_80_5_d2, x_80_5_d3, x_80_5_d4, x_79_4_12_d0, x_79_4_12_d1, x_79_4_12_d2, x_79_4_12_d3, x_79_4_12_d4, x_10_4_I, x_10_4_A, x_10_4_U, cb_ri, cb_rl, cb_rv, cb_th, cb_ite, ps_s, ps_n, u_368_1560, u_368_1596, u_368_1613, o1, o2, o3, o4, o5, wr, r1, tc, r5, q2, jc_self, Int.reduceEq, Int.reduceLT, Int.reduceLE, reduceIte, Int.reduceAdd, Int.reduceSub, Int.reduceMul, Int.reduceNeg, Int.reduceToNat, Bool.false_eq_true, eq_self, if_pos, if_neg]
  · have c1 : cl (lv + 84) _ _ _ = _ := c1
    have r1 : cl (lv + 85) 253 [aA 12 0, aI (h 22 0 ((i : Int) + 1).toNat)] _ = _ := r1
    have tc := thrown_c (lv + 84) h2
    rw [r3] at tc
    have wr := wb_third (lv + 83) (h 22 0 ((i : Int) + 1).toNat) h h1 e c1 hT
    obtain ⟨q2, q7⟩ := K_th c1 (Kh_self h)
    refine ⟨1, h2, aI (t2 e : Int), aI b, by omega, ⟨I2, Z_ri r1 (Z_th c1 z), fun j => k1 j, k2⟩, ?_⟩
    generalize t2 e = te at *
    have ht0 : ¬ (te : Int) = 0 := by omega
    simp (disch := omega) only [x_1, x_7_4_I, x_7_4_A, x_7_4_U, x_61, x_4_4, x_6_0, x_54, x_12, x_66, x_53, x_17, x_6_1, x_11, x_79_6_11_d0, x_79_6_11_d1, x_79_6_11_d2, x_79_6_11_d3, x_79_6_11_d4, x_6_2, x_79_6_12_d0, x_79_6_12_d1, x_79_6_12_d2, x_79_6_12_d3, x_79_6_12_d4, x_62, x_85, x_79_2_11_d0, x_79_2_11_d1, x_79_2_11_d2, x_79_2_11_d3, x_79_2_11_d4, x_79_2_12_d0, x_79_2_12_d1, x_79_2_12_d2, x_79_2_12_d3, x_79_2_12_d4, x_6_3, x_80_2_d0, x_80_2_d1, x_80_2_d2, x_80_2_d3, x_80_2_d4, x_7_5_I, x_7_5_A, x_7_5_U, x_79_1_12_d0, x_79_1_12_d1, x_79_1_12_d2, x_79_1_12_d3, x_79_1_12_d4, x_7_6_I, x_7_6_A, x_7_6_U, x_4_5, x_69, x_42, x_4_6, x_23, x_32, x_68, x_60, x_79_1_11_d0, x_79_1_11_d1, x_79_1_11_d2, x_79_1_11_d3, x_79_1_11_d4, x_80_4_d0, x_80_4_d1, x_80_4_d2, x_80_4_d3, x_80_4_d4, x_79_3_12_d0, x_79_3_12_d1, x_79_3_12_d2, x_79_3_12_d3, x_79_3_12_d4, x_2, x_80_3_d0, x_80_3_d1, x_80_3_d2, x_80_3_d3, x_80_3_d4, x_80_5_d0, x_80_5_d1, x_80_5_d2, x_80_5_d3, x_80_5_d4, x_79_4_12_d0, x_79_4_12_d1, x_79_4_12_d2, x_79_4_12_d3, x_79_4_12_d4, x_10_4_I, x_10_4_A, x_10_4_U, cb_ri, cb_rl, cb_rv, cb_th, cb_ite, ps_s, ps_n, u_368_1560, u_368_1596, u_368_1613, o1, o2, o3, o4, o5, wr, cb_r1, r1, tc, q2, ht0, Int.reduceEq, Int.reduceLT, Int.reduceLE, reduceIte, Int.reduceAdd, Int.reduceSub, Int.reduceMul, Int.reduceNeg, Int.reduceToNat, Bool.false_eq_true, eq_self, if_pos, if_neg]
theorem lw_full (lv i H N : Nat) (h : Hp) (I : INV h H N) (z : Zh h) (hb : h 27 0 0 ≤ 3072) (hi : (i : Int) + 6 ≤ h 27 0 0) : STEP lv 1616 i h := by
  intro v5 v6
  obtain ⟨o1, o2, o3, o4, o5⟩ := ob_i _ hb hi
  obtain ⟨v, h1, h2, c1, r1, I2, k1, k2⟩ := ag_full (lv + 5) (lv + 5) H N  h I
  have c1 : cl (lv + 85) _ _ _ = _ := c1
  have r1 : cl (lv + 85) _ _ _ = _ := r1
  obtain ⟨q2, q7⟩ := K_ri c1 (Kh_self h)
  refine ⟨0, h2, v5, v6, by omega, ⟨I2, Z_ri r1 (Z_ri c1 z), fun j => k1 j, k2⟩, ?_⟩
  rw [addc_0]
  simp (disch := omega) only [x_1, x_7_4_I, x_7_4_A, x_7_4_U, x_61, x_4_4, x_6_0, x_54, x_12, x_66, x_53, x_17, x_6_1, x_11, x_79_6_11_d0, x_79_6_11_d1, x_79_6_11_d2, x_79_6_11_d3, x_79_6_11_d4, x_6_2, x_79_6_12_d0, x_79_6_12_d1, x_79_6_12_d2, x_79_6_12_d3, x_79_6_12_d4, x_62, x_85, x_79_2_11_d0, x_79_2_11_d1, x_79_2_11_d2, x_79_2_11_d3, x_79_2_11_d4, x_79_2_12_d0, x_79_2_12_d1, x_79_2_12_d2, x_79_2_12_d3, x_79_2_12_d4, x_6_3, x_80_2_d0, x_80_2_d1, x_80_2_d2, x_80_2_d3, x_80_2_d4, x_7_5_I, x_7_5_A, x_7_5_U, x_79_1_12_d0, x_79_1_12_d1, x_79_1_12_d2, x_79_1_12_d3, x_79_1_12_d4, x_7_6_I, x_7_6_A, x_7_6_U, x_4_5, x_69, x_42, x_4_6, x_23, x_32, x_68, x_60, x_79_1_11_d0, x_79_1_11_d1, x_79_1_11_d2, x_79_1_11_d3, x_79_1_11_d4, x_80_4_d0, x_80_4_d1, x_80_4_d2, x_80_4_d3, x_80_4_d4, x_79_3_12_d0, x_79_3_12_d1, x_79_3_12_d2, x_79_3_12_d3, x_79_3_12_d4, x_2, x_80_3_d0, x_80_3_d1, x_80_3_d2, x_80_3_d3, x_80_3_d4, x_80_5_d0, x_80_5_d1, x_80_5_d2, x_80_5_d3, x_80_5_d4, x_79_4_12_d0, x_79_4_12_d1, x_79_4_12_d2, x_79_4_12_d3, x_79_4_12_d4, x_10_4_I, x_10_4_A, x_10_4_U, cb_ri, cb_rl, cb_rv, cb_th, cb_ite, ps_s, ps_n, u_368_1616, o1, o2, o3, o4, o5, c1, r1, q2, Int.reduceEq, Int.reduceLT, Int.reduceLE, reduceIte, Int.reduceAdd, Int.reduceSub, Int.reduceMul, Int.reduceNeg, Int.reduceToNat, Bool.false_eq_true, eq_self, if_pos, if_neg]
theorem lw_part (lv i H N : Nat) (h : Hp) (I : INV h H N) (z : Zh h) (hb : h 27 0 0 ≤ 3072) (hi : (i : Int) + 6 ≤ h 27 0 0) : STEP lv 1629 i h := by
  intro v5 v6
  obtain ⟨o1, o2, o3, o4, o5⟩ := ob_i _ hb hi
  obtain ⟨v, h1, h2, c1, r1, I2, k1, k2⟩ := ag_part (lv + 5) (lv + 5) H N  h I
  have c1 : cl (lv + 85) _ _ _ = _ := c1
  have r1 : cl (lv + 85) _ _ _ = _ := r1
  obtain ⟨q2, q7⟩ := K_ri c1 (Kh_self h)
  refine ⟨0, h2, v5, v6, by omega, ⟨I2, Z_ri r1 (Z_ri c1 z), fun j => k1 j, k2⟩, ?_⟩
  rw [addc_0]
  simp (disch := omega) only [x_1, x_7_4_I, x_7_4_A, x_7_4_U, x_61, x_4_4, x_6_0, x_54, x_12, x_66, x_53, x_17, x_6_1, x_11, x_79_6_11_d0, x_79_6_11_d1, x_79_6_11_d2, x_79_6_11_d3, x_79_6_11_d4, x_6_2, x_79_6_12_d0, x_79_6_12_d1, x_79_6_12_d2, x_79_6_12_d3, x_79_6_12_d4, x_62, x_85, x_79_2_11_d0, x_79_2_11_d1, x_79_2_11_d2, x_79_2_11_d3, x_79_2_11_d4, x_79_2_12_d0, x_79_2_12_d1, x_79_2_12_d2, x_79_2_12_d3, x_79_2_12_d4, x_6_3, x_80_2_d0, x_80_2_d1, x_80_2_d2, x_80_2_d3, x_80_2_d4, x_7_5_I, x_7_5_A, x_7_5_U, x_79_1_12_d0, x_79_1_12_d1, x_79_1_12_d2, x_79_1_12_d3, x_79_1_12_d4, x_7_6_I, x_7_6_A, x_7_6_U, x_4_5, x_69, x_42, x_4_6, x_23, x_32, x_68, x_60, x_79_1_11_d0, x_79_1_11_d1, x_79_1_11_d2, x_79_1_11_d3, x_79_1_11_d4, x_80_4_d0, x_80_4_d1, x_80_4_d2, x_80_4_d3, x_80_4_d4, x_79_3_12_d0, x_79_3_12_d1, x_79_3_12_d2, x_79_3_12_d3, x_79_3_12_d4, x_2, x_80_3_d0, x_80_3_d1, x_80_3_d2, x_80_3_d3, x_80_3_d4, x_80_5_d0, x_80_5_d1, x_80_5_d2, x_80_5_d3, x_80_5_d4, x_79_4_12_d0, x_79_4_12_d1, x_79_4_12_d2, x_79_4_12_d3, x_79_4_12_d4, x_10_4_I, x_10_4_A, x_10_4_U, cb_ri, cb_rl, cb_rv, cb_th, cb_ite, ps_s, ps_n, u_368_1629, o1, o2, o3, o4, o5, c1, r1, q2, Int.reduceEq, Int.reduceLT, Int.reduceLE, reduceIte, Int.reduceAdd, Int.reduceSub, Int.reduceMul, Int.reduceNeg, Int.reduceToNat, Bool.false_eq_true, eq_self, if_pos, if_neg]
theorem lw_easy (lv i H N : Nat) (h : Hp) (I : INV h H N) (z : Zh h) (hb : h 27 0 0 ≤ 3072) (hi : (i : Int) + 6 ≤ h 27 0 0) : STEP lv 1642 i h := by
  intro v5 v6
  obtain ⟨o1, o2, o3, o4, o5⟩ := ob_i _ hb hi
  obtain ⟨v, h1, h2, c1, r1, I2, k1, k2⟩ := ag_easy (lv + 5) (lv + 5) H N  h I
  have c1 : cl (lv + 85) _ _ _ = _ := c1
  have r1 : cl (lv + 85) _ _ _ = _ := r1
  obtain ⟨q2, q7⟩ := K_ri c1 (Kh_self h)
  refine ⟨0, h2, v5, v6, by omega, ⟨I2, Z_ri r1 (Z_ri c1 z), fun j => k1 j, k2⟩, ?_⟩
  rw [addc_0]
  simp (disch := omega) only [x_1, x_7_4_I, x_7_4_A, x_7_4_U, x_61, x_4_4, x_6_0, x_54, x_12, x_66, x_53, x_17, x_6_1, x_11, x_79_6_11_d0, x_79_6_11_d1, x_79_6_11_d2, x_79_6_11_d3, x_79_6_11_d4, x_6_2, x_79_6_12_d0, x_79_6_12_d1, x_79_6_12_d2, x_79_6_12_d3, x_79_6_12_d4, x_62, x_85, x_79_2_11_d0, x_79_2_11_d1, x_79_2_11_d2, x_79_2_11_d3, x_79_2_11_d4, x_79_2_12_d0, x_79_2_12_d1, x_79_2_12_d2, x_79_2_12_d3, x_79_2_12_d4, x_6_3, x_80_2_d0, x_80_2_d1, x_80_2_d2, x_80_2_d3, x_80_2_d4, x_7_5_I, x_7_5_A, x_7_5_U, x_79_1_12_d0, x_79_1_12_d1, x_79_1_12_d2, x_79_1_12_d3, x_79_1_12_d4, x_7_6_I, x_7_6_A, x_7_6_U, x_4_5, x_69, x_42, x_4_6, x_23, x_32, x_68, x_60, x_79_1_11_d0, x_79_1_11_d1, x_79_1_11_d2, x_79_1_11_d3, x_79_1_11_d4, x_80_4_d0, x_80_4_d1, x_80_4_d2, x_80_4_d3, x_80_4_d4, x_79_3_12_d0, x_79_3_12_d1, x_79_3_12_d2, x_79_3_12_d3, x_79_3_12_d4, x_2, x_80_3_d0, x_80_3_d1, x_80_3_d2, x_80_3_d3, x_80_3_d4, x_80_5_d0, x_80_5_d1, x_80_5_d2, x_80_5_d3, x_80_5_d4, x_79_4_12_d0, x_79_4_12_d1, x_79_4_12_d2, x_79_4_12_d3, x_79_4_12_d4, x_10_4_I, x_10_4_A, x_10_4_U, cb_ri, cb_rl, cb_rv, cb_th, cb_ite, ps_s, ps_n, u_368_1642, o1, o2, o3, o4, o5, c1, r1, q2, Int.reduceEq, Int.reduceLT, Int.reduceLE, reduceIte, Int.reduceAdd, Int.reduceSub, Int.reduceMul, Int.reduceNeg, Int.reduceToNat, Bool.false_eq_true, eq_self, if_pos, if_neg]
theorem lw_hands (lv i H N : Nat) (h : Hp) (I : INV h H N) (z : Zh h) (hb : h 27 0 0 ≤ 3072) (hi : (i : Int) + 6 ≤ h 27 0 0) : STEP lv 1655 i h := by
  intro v5 v6
  obtain ⟨o1, o2, o3, o4, o5⟩ := ob_i _ hb hi
  rcases (ag_hands (lv + 4) (lv + 5) H N (h 22 0 ((i : Int) + 1).toNat) (h 22 0 ((i : Int) + 2).toNat) h I) with ⟨v, h1, c1, h2, r1, r3, r5, I2, k1, k2⟩ | ⟨e, h1, c1, hT, b, h2, r1, r3, I2, k1, k2⟩
  · have c1 : cl (lv + 84) _ _ _ = _ := c1
    have r1 : cl (lv + 85) 258 [aA 12 0, aI (h 22 0 ((i : Int) + 1).toNat), aI (h 22 0 ((i : Int) + 2).toNat)] _ = _ := r1
    have tc := thrown_c (lv + 84) h2
    rw [r3] at tc
    have wr := wa_hands (lv + 83) (h 22 0 ((i : Int) + 1).toNat) (h 22 0 ((i : Int) + 2).toNat) h h1 v c1
    obtain ⟨q2, q7⟩ := Kh_o (t := 25) (k := 0) (j := 0) (v := v) (K_ri c1 (Kh_self h)) (by omega)
    refine ⟨0, h2, aI 0, aI v, by omega, ⟨I2, Z_ri r1 (Zh_o (Z_ri c1 z) (by omega)), fun j => k1 j, k2⟩, ?_⟩
    rw [addc_0]
    generalize hset h1 25 0 0 v = g1 at *
    simp (disch := omega) only [x_1, x_7_4_I, x_7_4_A, x_7_4_U, x_61, x_4_4, x_6_0, x_54, x_12, x_66, x_53, x_17, x_6_1, x_11, x_79_6_11_d0, x_79_6_11_d1, x_79_6_11_d2, x_79_6_11_d3, x_79_6_11_d4, x_6_2, x_79_6_12_d0, x_79_6_12_d1, x_79_6_12_d2, x_79_6_12_d3, x_79_6_12_d4, x_62, x_85, x_79_2_11_d0, x_79_2_11_d1, x_79_2_11_d2, x_79_2_11_d3, x_79_2_11_d4, x_79_2_12_d0, x_79_2_12_d1, x_79_2_12_d2, x_79_2_12_d3, x_79_2_12_d4, x_6_3, x_80_2_d0, x_80_2_d1, x_80_2_d2, x_80_2_d3, x_80_2_d4, x_7_5_I, x_7_5_A, x_7_5_U, x_79_1_12_d0, x_79_1_12_d1, x_79_1_12_d2, x_79_1_12_d3, x_79_1_12_d4, x_7_6_I, x_7_6_A, x_7_6_U, x_4_5, x_69, x_42, x_4_6, x_23, x_32, x_68, x_60, x_79_1_11_d0, x_79_1_11_d1, x_79_1_11_d2, x_79_1_11_d3, x_79_1_11_d4, x_80_4_d0, x_80_4_d1, x_80_4_d2, x_80_4_d3, x_80_4_d4, x_79_3_12_d0, x_79_3_12_d1, x_79_3_12_d2, x_79_3_12_d3, x_79_3_12_d4, x_2, x_80_3_d0, x_80_3_d1, x_80_3_d2, x_80_3_d3, x_80_3_d4, x_80_5_d0, x_80_5_d1, x_80_5_d2, x_80_5_d3, x_80_5_d4, x_79_4_12_d0, x_79_4_12_d1, x_79_4_12_d2, x_79_4_12_d3, x_79_4_12_d4, x_10_4_I, x_10_4_A, x_10_4_U, cb_ri, cb_rl, cb_rv, cb_th, cb_ite, ps_s, ps_n, u_368_1655, u_368_1703, u_368_1720, o1, o2, o3, o4, o5, wr, r1, tc, r5, q2, jc_self, Int.reduceEq, Int.reduceLT, Int.reduceLE, reduceIte, Int.reduceAdd, Int.reduceSub, Int.reduceMul, Int.reduceNeg, Int.reduceToNat, Bool.false_eq_true, eq_self, if_pos, if_neg]
  · have c1 : cl (lv + 84) _ _ _ = _ := c1
    have r1 : cl (lv + 85) 258 [aA 12 0, aI (h 22 0 ((i : Int) + 1).toNat), aI (h 22 0 ((i : Int) + 2).toNat)] _ = _ := r1
    have tc := thrown_c (lv + 84) h2
    rw [r3] at tc
    have wr := wb_hands (lv + 83) (h 22 0 ((i : Int) + 1).toNat) (h 22 0 ((i : Int) + 2).toNat) h h1 e c1 hT
    obtain ⟨q2, q7⟩ := K_th c1 (Kh_self h)
    refine ⟨1, h2, aI (t20 e : Int), aI b, by omega, ⟨I2, Z_ri r1 (Z_th c1 z), fun j => k1 j, k2⟩, ?_⟩
    generalize t20 e = te at *
    have ht0 : ¬ (te : Int) = 0 := by omega
    simp (disch := omega) only [x_1, x_7_4_I, x_7_4_A, x_7_4_U, x_61, x_4_4, x_6_0, x_54, x_12, x_66, x_53, x_17, x_6_1, x_11, x_79_6_11_d0, x_79_6_11_d1, x_79_6_11_d2, x_79_6_11_d3, x_79_6_11_d4, x_6_2, x_79_6_12_d0, x_79_6_12_d1, x_79_6_12_d2, x_79_6_12_d3, x_79_6_12_d4, x_62, x_85, x_79_2_11_d0, x_79_2_11_d1, x_79_2_11_d2, x_79_2_11_d3, x_79_2_11_d4, x_79_2_12_d0, x_79_2_12_d1, x_79_2_12_d2, x_79_2_12_d3, x_79_2_12_d4, x_6_3, x_80_2_d0, x_80_2_d1, x_80_2_d2, x_80_2_d3, x_80_2_d4, x_7_5_I, x_7_5_A, x_7_5_U, x_79_1_12_d0, x_79_1_12_d1, x_79_1_12_d2, x_79_1_12_d3, x_79_1_12_d4, x_7_6_I, x_7_6_A, x_7_6_U, x_4_5, x_69, x_42, x_4_6, x_23, x_32, x_68, x_60, x_79_1_11_d0, x_79_1_11_d1, x_79_1_11_d2, x_79_1_11_d3, x_79_1_11_d4, x_80_4_d0, x_80_4_d1, x_80_4_d2, x_80_4_d3, x_80_4_d4, x_79_3_12_d0, x_79_3_12_d1, x_79_3_12_d2, x_79_3_12_d3, x_79_3_12_d4, x_2, x_80_3_d0, x_80_3_d1, x_80_3_d2, x_80_3_d3, x_80_3_d4, x_80_5_d0, x_80_5_d1, x_80_5_d2, x_80_5_d3, x_80_5_d4, x_79_4_12_d0, x_79_4_12_d1, x_79_4_12_d2, x_79_4_12_d3, x_79_4_12_d4, x_10_4_I, x_10_4_A, x_10_4_U, cb_ri, cb_rl, cb_rv, cb_th, cb_ite, ps_s, ps_n, u_368_1655, u_368_1703, u_368_1720, o1, o2, o3, o4, o5, wr, cb_r1, r1, tc, q2, ht0, Int.reduceEq, Int.reduceLT, Int.reduceLE, reduceIte, Int.reduceAdd, Int.reduceSub, Int.reduceMul, Int.reduceNeg, Int.reduceToNat, Bool.false_eq_true, eq_self, if_pos, if_neg]
theorem lw_needed (lv i H N : Nat) (h : Hp) (I : INV h H N) (z : Zh h) (hb : h 27 0 0 ≤ 3072) (hi : (i : Int) + 6 ≤ h 27 0 0) : STEP lv 1723 i h := by
  intro v5 v6
  obtain ⟨o1, o2, o3, o4, o5⟩ := ob_i _ hb hi
  obtain ⟨v, h1, h2, c1, r1, I2, k1, k2⟩ := ag_needed (lv + 5) (lv + 5) H N  h I
  have c1 : cl (lv + 85) _ _ _ = _ := c1
  have r1 : cl (lv + 85) _ _ _ = _ := r1
  obtain ⟨q2, q7⟩ := K_ri c1 (Kh_self h)
  refine ⟨0, h2, v5, v6, by omega, ⟨I2, Z_ri r1 (Z_ri c1 z), fun j => k1 j, k2⟩, ?_⟩
  rw [addc_0]
  simp (disch := omega) only [x_1, x_7_4_I, x_7_4_A, x_7_4_U, x_61, x_4_4, x_6_0, x_54, x_12, x_66, x_53, x_17, x_6_1, x_11, x_79_6_11_d0, x_79_6_11_d1, x_79_6_11_d2, x_79_6_11_d3, x_79_6_11_d4, x_6_2, x_79_6_12_d0, x_79_6_12_d1, x_79_6_12_d2, x_79_6_12_d3, x_79_6_12_d4, x_62, x_85, x_79_2_11_d0, x_79_2_11_d1, x_79_2_11_d2, x_79_2_11_d3, x_79_2_11_d4, x_79_2_12_d0, x_79_2_12_d1, x_79_2_12_d2, x_79_2_12_d3, x_79_2_12_d4, x_6_3, x_80_2_d0, x_80_2_d1, x_80_2_d2, x_80_2_d3, x_80_2_d4, x_7_5_I, x_7_5_A, x_7_5_U, x_79_1_12_d0, x_79_1_12_d1, x_79_1_12_d2, x_79_1_12_d3, x_79_1_12_d4, x_7_6_I, x_7_6_A, x_7_6_U, x_4_5, x_69, x_42, x_4_6, x_23, x_32, x_68, x_60, x_79_1_11_d0, x_79_1_11_d1, x_79_1_11_d2, x_79_1_11_d3, x_79_1_11_d4, x_80_4_d0, x_80_4_d1, x_80_4_d2, x_80_4_d3, x_80_4_d4, x_79_3_12_d0, x_79_3_12_d1, x_79_3_12_d2, x_79_3_12_d3, x_79_3_12_d4, x_2, x_80_3_d0, x_80_3_d1, x_80_3_d2, x_80_3_d3, x_80_3_d4, x_80_5_d0, x_80_5_d1, x_80_5_d2, x_80_5_d3, x_80_5_d4, x_79_4_12_d0, x_79_4_12_d1, x_79_4_12_d2, x_79_4_12_d3, x_79_4_12_d4, x_10_4_I, x_10_4_A, x_10_4_U, cb_ri, cb_rl, cb_rv, cb_th, cb_ite, ps_s, ps_n, u_368_1723, o1, o2, o3, o4, o5, c1, r1, q2, Int.reduceEq, Int.reduceLT, Int.reduceLE, reduceIte, Int.reduceAdd, Int.reduceSub, Int.reduceMul, Int.reduceNeg, Int.reduceToNat, Bool.false_eq_true, eq_self, if_pos, if_neg]
theorem lw_missed (lv i H N : Nat) (h : Hp) (I : INV h H N) (z : Zh h) (hb : h 27 0 0 ≤ 3072) (hi : (i : Int) + 6 ≤ h 27 0 0) : STEP lv 1736 i h := by
  intro v5 v6
  obtain ⟨o1, o2, o3, o4, o5⟩ := ob_i _ hb hi
  obtain ⟨v, h1, h2, c1, r1, I2, k1, k2⟩ := ag_missed (lv + 5) (lv + 5) H N  h I
  have c1 : cl (lv + 85) _ _ _ = _ := c1
  have r1 : cl (lv + 85) _ _ _ = _ := r1
  obtain ⟨q2, q7⟩ := K_ri c1 (Kh_self h)
  refine ⟨0, h2, v5, v6, by omega, ⟨I2, Z_ri r1 (Z_ri c1 z), fun j => k1 j, k2⟩, ?_⟩
  rw [addc_0]
  simp (disch := omega) only [x_1, x_7_4_I, x_7_4_A, x_7_4_U, x_61, x_4_4, x_6_0, x_54, x_12, x_66, x_53, x_17, x_6_1, x_11, x_79_6_11_d0, x_79_6_11_d1, x_79_6_11_d2, x_79_6_11_d3, x_79_6_11_d4, x_6_2, x_79_6_12_d0, x_79_6_12_d1, x_79_6_12_d2, x_79_6_12_d3, x_79_6_12_d4, x_62, x_85, x_79_2_11_d0, x_79_2_11_d1, x_79_2_11_d2, x_79_2_11_d3, x_79_2_11_d4, x_79_2_12_d0, x_79_2_12_d1, x_79_2_12_d2, x_79_2_12_d3, x_79_2_12_d4, x_6_3, x_80_2_d0, x_80_2_d1, x_80_2_d2, x_80_2_d3, x_80_2_d4, x_7_5_I, x_7_5_A, x_7_5_U, x_79_1_12_d0, x_79_1_12_d1, x_79_1_12_d2, x_79_1_12_d3, x_79_1_12_d4, x_7_6_I, x_7_6_A, x_7_6_U, x_4_5, x_69, x_42, x_4_6, x_23, x_32, x_68, x_60, x_79_1_11_d0, x_79_1_11_d1, x_79_1_11_d2, x_79_1_11_d3, x_79_1_11_d4, x_80_4_d0, x_80_4_d1, x_80_4_d2, x_80_4_d3, x_80_4_d4, x_79_3_12_d0, x_79_3_12_d1, x_79_3_12_d2, x_79_3_12_d3, x_79_3_12_d4, x_2, x_80_3_d0, x_80_3_d1, x_80_3_d2, x_80_3_d3, x_80_3_d4, x_80_5_d0, x_80_5_d1, x_80_5_d2, x_80_5_d3, x_80_5_d4, x_79_4_12_d0, x_79_4_12_d1, x_79_4_12_d2, x_79_4_12_d3, x_79_4_12_d4, x_10_4_I, x_10_4_A, x_10_4_U, cb_ri, cb_rl, cb_rv, cb_th, cb_ite, ps_s, ps_n, u_368_1736, o1, o2, o3, o4, o5, c1, r1, q2, Int.reduceEq, Int.reduceLT, Int.reduceLE, reduceIte, Int.reduceAdd, Int.reduceSub, Int.reduceMul, Int.reduceNeg, Int.reduceToNat, Bool.false_eq_true, eq_self, if_pos, if_neg]
theorem lw_spare (lv i H N : Nat) (h : Hp) (I : INV h H N) (z : Zh h) (hb : h 27 0 0 ≤ 3072) (hi : (i : Int) + 6 ≤ h 27 0 0) : STEP lv 1749 i h := by
  intro v5 v6
  obtain ⟨o1, o2, o3, o4, o5⟩ := ob_i _ hb hi
  obtain ⟨v, h1, h2, c1, r1, I2, k1, k2⟩ := ag_spare (lv + 5) (lv + 5) H N  h I
  have c1 : cl (lv + 85) _ _ _ = _ := c1
  have r1 : cl (lv + 85) _ _ _ = _ := r1
  obtain ⟨q2, q7⟩ := K_ri c1 (Kh_self h)
  refine ⟨0, h2, v5, v6, by omega, ⟨I2, Z_ri r1 (Z_ri c1 z), fun j => k1 j, k2⟩, ?_⟩
  rw [addc_0]
  simp (disch := omega) only [x_1, x_7_4_I, x_7_4_A, x_7_4_U, x_61, x_4_4, x_6_0, x_54, x_12, x_66, x_53, x_17, x_6_1, x_11, x_79_6_11_d0, x_79_6_11_d1, x_79_6_11_d2, x_79_6_11_d3, x_79_6_11_d4, x_6_2, x_79_6_12_d0, x_79_6_12_d1, x_79_6_12_d2, x_79_6_12_d3, x_79_6_12_d4, x_62, x_85, x_79_2_11_d0, x_79_2_11_d1, x_79_2_11_d2, x_79_2_11_d3, x_79_2_11_d4, x_79_2_12_d0, x_79_2_12_d1, x_79_2_12_d2, x_79_2_12_d3, x_79_2_12_d4, x_6_3, x_80_2_d0, x_80_2_d1, x_80_2_d2, x_80_2_d3, x_80_2_d4, x_7_5_I, x_7_5_A, x_7_5_U, x_79_1_12_d0, x_79_1_12_d1, x_79_1_12_d2, x_79_1_12_d3, x_79_1_12_d4, x_7_6_I, x_7_6_A, x_7_6_U, x_4_5, x_69, x_42, x_4_6, x_23, x_32, x_68, x_60, x_79_1_11_d0, x_79_1_11_d1, x_79_1_11_d2, x_79_1_11_d3, x_79_1_11_d4, x_80_4_d0, x_80_4_d1, x_80_4_d2, x_80_4_d3, x_80_4_d4, x_79_3_12_d0, x_79_3_12_d1, x_79_3_12_d2, x_79_3_12_d3, x_79_3_12_d4, x_2, x_80_3_d0, x_80_3_d1, x_80_3_d2, x_80_3_d3, x_80_3_d4, x_80_5_d0, x_80_5_d1, x_80_5_d2, x_80_5_d3, x_80_5_d4, x_79_4_12_d0, x_79_4_12_d1, x_79_4_12_d2, x_79_4_12_d3, x_79_4_12_d4, x_10_4_I, x_10_4_A, x_10_4_U, cb_ri, cb_rl, cb_rv, cb_th, cb_ite, ps_s, ps_n, u_368_1749, o1, o2, o3, o4, o5, c1, r1, q2, Int.reduceEq, Int.reduceLT, Int.reduceLE, reduceIte, Int.reduceAdd, Int.reduceSub, Int.reduceMul, Int.reduceNeg, Int.reduceToNat, Bool.false_eq_true, eq_self, if_pos, if_neg]
theorem lw_best (lv i H N : Nat) (h : Hp) (I : INV h H N) (z : Zh h) (hb : h 27 0 0 ≤ 3072) (hi : (i : Int) + 6 ≤ h 27 0 0) : STEP lv 1762 i h := by
  intro v5 v6
  obtain ⟨o1, o2, o3, o4, o5⟩ := ob_i _ hb hi
  obtain ⟨v, h1, h2, c1, r1, I2, k1, k2⟩ := ag_best (lv + 5) (lv + 5) H N  h I
  have c1 : cl (lv + 85) _ _ _ = _ := c1
  have r1 : cl (lv + 85) _ _ _ = _ := r1
  obtain ⟨q2, q7⟩ := K_ri c1 (Kh_self h)
  refine ⟨0, h2, v5, v6, by omega, ⟨I2, Z_ri r1 (Z_ri c1 z), fun j => k1 j, k2⟩, ?_⟩
  rw [addc_0]
  simp (disch := omega) only [x_1, x_7_4_I, x_7_4_A, x_7_4_U, x_61, x_4_4, x_6_0, x_54, x_12, x_66, x_53, x_17, x_6_1, x_11, x_79_6_11_d0, x_79_6_11_d1, x_79_6_11_d2, x_79_6_11_d3, x_79_6_11_d4, x_6_2, x_79_6_12_d0, x_79_6_12_d1, x_79_6_12_d2, x_79_6_12_d3, x_79_6_12_d4, x_62, x_85, x_79_2_11_d0, x_79_2_11_d1, x_79_2_11_d2, x_79_2_11_d3, x_79_2_11_d4, x_79_2_12_d0, x_79_2_12_d1, x_79_2_12_d2, x_79_2_12_d3, x_79_2_12_d4, x_6_3, x_80_2_d0, x_80_2_d1, x_80_2_d2, x_80_2_d3, x_80_2_d4, x_7_5_I, x_7_5_A, x_7_5_U, x_79_1_12_d0, x_79_1_12_d1, x_79_1_12_d2, x_79_1_12_d3, x_79_1_12_d4, x_7_6_I, x_7_6_A, x_7_6_U, x_4_5, x_69, x_42, x_4_6, x_23, x_32, x_68, x_60, x_79_1_11_d0, x_79_1_11_d1, x_79_1_11_d2, x_79_1_11_d3, x_79_1_11_d4, x_80_4_d0, x_80_4_d1, x_80_4_d2, x_80_4_d3, x_80_4_d4, x_79_3_12_d0, x_79_3_12_d1, x_79_3_12_d2, x_79_3_12_d3, x_79_3_12_d4, x_2, x_80_3_d0, x_80_3_d1, x_80_3_d2, x_80_3_d3, x_80_3_d4, x_80_5_d0, x_80_5_d1, x_80_5_d2, x_80_5_d3, x_80_5_d4, x_79_4_12_d0, x_79_4_12_d1, x_79_4_12_d2, x_79_4_12_d3, x_79_4_12_d4, x_10_4_I, x_10_4_A, x_10_4_U, cb_ri, cb_rl, cb_rv, cb_th, cb_ite, ps_s, ps_n, u_368_1762, o1, o2, o3, o4, o5, c1, r1, q2, Int.reduceEq, Int.reduceLT, Int.reduceLE, reduceIte, Int.reduceAdd, Int.reduceSub, Int.reduceMul, Int.reduceNeg, Int.reduceToNat, Bool.false_eq_true, eq_self, if_pos, if_neg]
theorem lw_clean (lv i H N : Nat) (h : Hp) (I : INV h H N) (z : Zh h) (hb : h 27 0 0 ≤ 3072) (hi : (i : Int) + 6 ≤ h 27 0 0) : STEP lv 1775 i h := by
  intro v5 v6
  obtain ⟨o1, o2, o3, o4, o5⟩ := ob_i _ hb hi
  obtain ⟨v, h1, h2, c1, r1, I2, k1, k2⟩ := ag_clean (lv + 5) (lv + 5) H N  h I
  have c1 : cl (lv + 85) _ _ _ = _ := c1
  have r1 : cl (lv + 85) _ _ _ = _ := r1
  obtain ⟨q2, q7⟩ := K_ri c1 (Kh_self h)
  refine ⟨0, h2, v5, v6, by omega, ⟨I2, Z_ri r1 (Z_ri c1 z), fun j => k1 j, k2⟩, ?_⟩
  rw [addc_0]
  simp (disch := omega) only [x_1, x_7_4_I, x_7_4_A, x_7_4_U, x_61, x_4_4, x_6_0, x_54, x_12, x_66, x_53, x_17, x_6_1, x_11, x_79_6_11_d0, x_79_6_11_d1, x_79_6_11_d2, x_79_6_11_d3, x_79_6_11_d4, x_6_2, x_79_6_12_d0, x_79_6_12_d1, x_79_6_12_d2, x_79_6_12_d3, x_79_6_12_d4, x_62, x_85, x_79_2_11_d0, x_79_2_11_d1, x_79_2_11_d2, x_79_2_11_d3, x_79_2_11_d4, x_79_2_12_d0, x_79_2_12_d1, x_79_2_12_d2, x_79_2_12_d3, x_79_2_12_d4, x_6_3, x_80_2_d0, x_80_2_d1, x_80_2_d2, x_80_2_d3, x_80_2_d4, x_7_5_I, x_7_5_A, x_7_5_U, x_79_1_12_d0, x_79_1_12_d1, x_79_1_12_d2, x_79_1_12_d3, x_79_1_12_d4, x_7_6_I, x_7_6_A, x_7_6_U, x_4_5, x_69, x_42, x_4_6, x_23, x_32, x_68, x_60, x_79_1_11_d0, x_79_1_11_d1, x_79_1_11_d2, x_79_1_11_d3, x_79_1_11_d4, x_80_4_d0, x_80_4_d1, x_80_4_d2, x_80_4_d3, x_80_4_d4, x_79_3_12_d0, x_79_3_12_d1, x_79_3_12_d2, x_79_3_12_d3, x_79_3_12_d4, x_2, x_80_3_d0, x_80_3_d1, x_80_3_d2, x_80_3_d3, x_80_3_d4, x_80_5_d0, x_80_5_d1, x_80_5_d2, x_80_5_d3, x_80_5_d4, x_79_4_12_d0, x_79_4_12_d1, x_79_4_12_d2, x_79_4_12_d3, x_79_4_12_d4, x_10_4_I, x_10_4_A, x_10_4_U, cb_ri, cb_rl, cb_rv, cb_th, cb_ite, ps_s, ps_n, u_368_1775, o1, o2, o3, o4, o5, c1, r1, q2, Int.reduceEq, Int.reduceLT, Int.reduceLE, reduceIte, Int.reduceAdd, Int.reduceSub, Int.reduceMul, Int.reduceNeg, Int.reduceToNat, Bool.false_eq_true, eq_self, if_pos, if_neg]
theorem lw_better (lv i H N : Nat) (h : Hp) (I : INV h H N) (z : Zh h) (hb : h 27 0 0 ≤ 3072) (hi : (i : Int) + 6 ≤ h 27 0 0) : STEP lv 1788 i h := by
  intro v5 v6
  obtain ⟨o1, o2, o3, o4, o5⟩ := ob_i _ hb hi
  rcases (ag_better (lv + 4) (lv + 5) H N (h 22 0 ((i : Int) + 1).toNat) h I) with ⟨v, h1, c1, h2, r1, r3, r5, I2, k1, k2⟩ | ⟨e, h1, c1, hT, b, h2, r1, r3, I2, k1, k2⟩
  · have c1 : cl (lv + 84) _ _ _ = _ := c1
    have r1 : cl (lv + 85) 265 [aA 12 0, aI (h 22 0 ((i : Int) + 1).toNat)] _ = _ := r1
    have tc := thrown_c (lv + 84) h2
    rw [r3] at tc
    have wr := wa_better (lv + 83) (h 22 0 ((i : Int) + 1).toNat) h h1 v c1
    obtain ⟨q2, q7⟩ := Kh_o (t := 25) (k := 0) (j := 0) (v := v) (K_ri c1 (Kh_self h)) (by omega)
    refine ⟨0, h2, aI 0, aI v, by omega, ⟨I2, Z_ri r1 (Zh_o (Z_ri c1 z) (by omega)), fun j => k1 j, k2⟩, ?_⟩
    rw [addc_0]
    generalize hset h1 25 0 0 v = g1 at *
    simp (disch := omega) only [x_1, x_7_4_I, x_7_4_A, x_7_4_U, x_61, x_4_4, x_6_0, x_54, x_12, x_66, x_53, x_17, x_6_1, x_11, x_79_6_11_d0, x_79_6_11_d1, x_79_6_11_d2, x_79_6_11_d3, x_79_6_11_d4, x_6_2, x_79_6_12_d0, x_79_6_12_d1, x_79_6_12_d2, x_79_6_12_d3, x_79_6_12_d4, x_62, x_85, x_79_2_11_d0, x_79_2_11_d1, x_79_2_11_d2, x_79_2_11_d3, x_79_2_11_d4, x_79_2_12_d0, x_79_2_12_d1, x_79_2_12_d2, x_79_2_12_d3, x_79_2_12_d4, x_6_3, x_80_2_d0, x_80_2_d1, x_80_2_d2, x_80_2_d3, x_80_2_d4, x_7_5_I, x_7_5_A, x_7_5_U, x_79_1_12_d0, x_79_1_12_d1, x_79_1_12_d2, x_79_1_12_d3, x_79_1_12_d4, x_7_6_I, x_7_6_A, x_7_6_U, x_4_5, x_69, x_42, x_4_6, x_23, x_32, x_68, x_60, x_79_1_11_d0, x_79_1_11_d1, x_79_1_11_d2, x_79_1_11_d3, x_79_1_11_d4, x_80_4_d0, x_80_4_d1, x_80_4_d2, x_80_4_d3, x_80_4_d4, x_79_3_12_d0, x_79_3_12_d1, x_79_3_12_d2, x_79_3_12_d3, x_79_3_12_d4, x_2, x_80_3_d0, x_80_3_d1, x_80_3_d2, x_80_3_d3, x_80_3_d4, x_80_5_d0, x_80_5_d1, x_80_5_d2, x_80_5_d3, x_80_5_d4, x_79_4_12_d0, x_79_4_12_d1, x_79_4_12_d2, x_79_4_12_d3, x_79_4_12_d4, x_10_4_I, x_10_4_A, x_10_4_U, cb_ri, cb_rl, cb_rv, cb_th, cb_ite, ps_s, ps_n, u_368_1788, u_368_1824, u_368_1841, o1, o2, o3, o4, o5, wr, r1, tc, r5, q2, jc_self, Int.reduceEq, Int.reduceLT, Int.reduceLE, reduceIte, Int.reduceAdd, Int.reduceSub, Int.reduceMul, Int.reduceNeg, Int.reduceToNat, Bool.false_eq_true, eq_self, if_pos, if_neg]
  · have c1 : cl (lv + 84) _ _ _ = _ := c1
    have r1 : cl (lv + 85) 265 [aA 12 0, aI (h 22 0 ((i : Int) + 1).toNat)] _ = _ := r1
    have tc := thrown_c (lv + 84) h2
    rw [r3] at tc
    have wr := wb_better (lv + 83) (h 22 0 ((i : Int) + 1).toNat) h h1 e c1 hT
    obtain ⟨q2, q7⟩ := K_th c1 (Kh_self h)
    refine ⟨1, h2, aI (t21 e : Int), aI b, by omega, ⟨I2, Z_ri r1 (Z_th c1 z), fun j => k1 j, k2⟩, ?_⟩
    generalize t21 e = te at *
    have ht0 : ¬ (te : Int) = 0 := by omega
    simp (disch := omega) only [x_1, x_7_4_I, x_7_4_A, x_7_4_U, x_61, x_4_4, x_6_0, x_54, x_12, x_66, x_53, x_17, x_6_1, x_11, x_79_6_11_d0, x_79_6_11_d1, x_79_6_11_d2, x_79_6_11_d3, x_79_6_11_d4, x_6_2, x_79_6_12_d0, x_79_6_12_d1, x_79_6_12_d2, x_79_6_12_d3, x_79_6_12_d4, x_62, x_85, x_79_2_11_d0, x_79_2_11_d1, x_79_2_11_d2, x_79_2_11_d3, x_79_2_11_d4, x_79_2_12_d0, x_79_2_12_d1, x_79_2_12_d2, x_79_2_12_d3, x_79_2_12_d4, x_6_3, x_80_2_d0, x_80_2_d1, x_80_2_d2, x_80_2_d3, x_80_2_d4, x_7_5_I, x_7_5_A, x_7_5_U, x_79_1_12_d0, x_79_1_12_d1, x_79_1_12_d2, x_79_1_12_d3, x_79_1_12_d4, x_7_6_I, x_7_6_A, x_7_6_U, x_4_5, x_69, x_42, x_4_6, x_23, x_32, x_68, x_60, x_79_1_11_d0, x_79_1_11_d1, x_79_1_11_d2, x_79_1_11_d3, x_79_1_11_d4, x_80_4_d0, x_80_4_d1, x_80_4_d2, x_80_4_d3, x_80_4_d4, x_79_3_12_d0, x_79_3_12_d1, x_79_3_12_d2, x_79_3_12_d3, x_79_3_12_d4, x_2, x_80_3_d0, x_80_3_d1, x_80_3_d2, x_80_3_d3, x_80_3_d4, x_80_5_d0, x_80_5_d1, x_80_5_d2, x_80_5_d3, x_80_5_d4, x_79_4_12_d0, x_79_4_12_d1, x_79_4_12_d2, x_79_4_12_d3, x_79_4_12_d4, x_10_4_I, x_10_4_A, x_10_4_U, cb_ri, cb_rl, cb_rv, cb_th, cb_ite, ps_s, ps_n, u_368_1788, u_368_1824, u_368_1841, o1, o2, o3, o4, o5, wr, cb_r1, r1, tc, q2, ht0, Int.reduceEq, Int.reduceLT, Int.reduceLE, reduceIte, Int.reduceAdd, Int.reduceSub, Int.reduceMul, Int.reduceNeg, Int.reduceToNat, Bool.false_eq_true, eq_self, if_pos, if_neg]
