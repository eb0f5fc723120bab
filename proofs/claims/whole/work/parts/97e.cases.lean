/-! more cases -/
theorem lw_free (lv i H N : Nat) (h : Hp) (I : INV h H N) (z : Zh h) (hb : h 27 0 0 ≤ 3072) (hi : (i : Int) + 6 ≤ h 27 0 0) : STEP lv 2628 i h := by
  intro v5 v6
  obtain ⟨o1, o2, o3, o4, o5⟩ := ob_i _ hb hi
  obtain ⟨v, h1, h2, c1, r1, I2, k1, k2⟩ := ag_free (lv + 5) (lv + 5) H N  h I
  have c1 : cl (lv + 85) _ _ _ = _ := c1
  have r1 : cl (lv + 85) _ _ _ = _ := r1
  obtain ⟨q2, q7⟩ := K_ri c1 (Kh_self h)
  refine ⟨0, h2, v5, v6, by omega, ⟨I2, Z_ri r1 (Z_ri c1 z), fun j => k1 j, k2⟩, ?_⟩
  rw [addc_0]
  simp (disch := omega) only [x_1, x_7_4_I, x_7_4_A, x_7_4_U, x_61, x_4_4, x_6_0, x_54, x_12, x_66, x_53, x_17, x_6_1, x_11, x_79_6_11_d0, x_79_6_11_d1, x_79_6_11_d2, x_79_6_11_d3, x_79_6_11_d4, x_6_2, x_79_6_12_d0, x_79_6_12_d1, x_79_6_12_d2, x_79_6_12_d3, x_79_6_12_d4, x_62, x_85, x_79_2_11_d0, x_79_2_11_d1, x_79_2_11_d2, x_79_2_11_d3, x_79_2_11_d4, x_79_2_12_d0, x_79_2_12_d1, x_79_2_12_d2, x_79_2_12_d3, x_79_2_12_d4, x_6_3, x_80_2_d0, x_80_2_d1, x_80_2_d2, x_80_2_d3, x_80_2_d4, x_7_5_I, x_7_5_A, x_7_5_U, x_79_1_12_d0, x_79_1_12_d1, x_79_1_12_d2, x_79_1_12_d3, x_79_1_12_d4, x_7_6_I, x_7_6_A, x_7_6_U, x_4_5, x_69, x_42, x_4_6, x_23, x_32, x_68, x_60, x_79_1_11_d0, x_79_1_11_d1, x_79_1_11_d2, x_79_1_11_d3, x_79_1_11_d4, x_80_4_d0, x_80_4_d1, x_80_4_d2, x_80_4_d3, x_80_4_d4, x_79_3_12_d0, x_79_3_12_d1, x_79_3_12_d2, x_79_3_12_d3, x_79_3_12_d4, x_2, x_80_3_d0, x_80_3_d1, x_80_3_d2, x_80_3_d3, x_80_3_d4, x_80_5_d0, x_80_5_d1, x_80_5_d2, x_80_5_d3, x_80_5_d4, x_79_4_12_d0, x_79_4_12_d1, x_79_4_12_d2, x_79_4_12_d3, x_79_4_12_d4, x_10_4_I, x_10_4_A, x_10_4_U, cb_ri, cb_rl, cb_rv, cb_th, cb_ite, ps_s, ps_n, u_368_2628, o1, o2, o3, o4, o5, c1, r1, q2, Int.reduceEq, Int.reduceLT, Int.reduceLE, reduceIte, Int.reduceAdd, Int.reduceSub, Int.reduceMul, Int.reduceNeg, Int.reduceToNat, Bool.false_eq_true, eq_self, if_pos, if_neg]
theorem lw_span (lv i H N : Nat) (h : Hp) (I : INV h H N) (z : Zh h) (hb : h 27 0 0 ≤ 3072) (hi : (i : Int) + 6 ≤ h 27 0 0) : STEP lv 2641 i h := by
  intro v5 v6
  obtain ⟨o1, o2, o3, o4, o5⟩ := ob_i _ hb hi
  rcases (ag_span (lv + 4) (lv + 5) H N (h 22 0 ((i : Int) + 1).toNat) h I) with ⟨v, h1, c1, h2, r1, r3, r5, I2, k1, k2⟩ | ⟨e, h1, c1, hT, b, h2, r1, r3, I2, k1, k2⟩
  · have c1 : cl (lv + 84) _ _ _ = _ := c1
    have r1 : cl (lv + 85) 296 [aA 12 0, aI (h 22 0 ((i : Int) + 1).toNat)] _ = _ := r1
    have tc := thrown_c (lv + 84) h2
    rw [r3] at tc
    have wr := wa_span (lv + 83) (h 22 0 ((i : Int) + 1).toNat) h h1 v c1
    obtain ⟨q2, q7⟩ := Kh_o (t := 25) (k := 0) (j := 0) (v := v) (K_ri c1 (Kh_self h)) (by omega)
    refine ⟨0, h2, aI 0, aI v, by omega, ⟨I2, Z_ri r1 (Zh_o (Z_ri c1 z) (by omega)), fun j => k1 j, k2⟩, ?_⟩
    rw [addc_0]
    generalize hset h1 25 0 0 v = g1 at *
    simp (disch := omega) only [x_1, x_7_4_I, x_7_4_A, x_7_4_U, x_61, x_4_4, x_6_0, x_54, x_12, x_66, x_53, x_17, x_6_1, x_11, x_79_6_11_d0, x_79_6_11_d1, x_79_6_11_d2, x_79_6_11_d3, x_79_6_11_d4, x_6_2, x_79_6_12_d0, x_79_6_12_d1, x_79_6_12_d2, x_79_6_12_d3, x_79_6_12_d4, x_62, x_85, x_79_2_11_d0, x_79_2_11_d1, x_79_2_11_d2, x_79_2_11_d3, x_79_2_11_d4, x_79_2_12_d0, x_79_2_12_d1, x_79_2_12_d2, x_79_2_12_d3, x_79_2_12_d4, x_6_3, x_80_2_d0, x_80_2_d1, x_80_2_d2, x_80_2_d3, x_80_2_d4, x_7_5_I, x_7_5_A, x_7_5_U, x_79_1_12_d0, x_79_1_12_d1, x_79_1_12_d2, x_79_1_12_d3, x_79_1_12_d4, x_7_6_I, x_7_6_A, x_7_6_U, x_4_5, x_69, x_42, x_4_6, x_23, x_32, x_68, x_60, x_79_1_11_d0, x_79_1_11_d1, x_79_1_11_d2, x_79_1_11_d3, x_79_1_11_d4, x_80_4_d0, x_80_4_d1, x_80_4_d2, x_80_4_d3, x_80_4_d4, x_79_3_12_d0, x_79_3_12_d1, x_79_3_12_d2, x_79_3_12_d3, x_79_3_12_d4, x_2, x_80_3_d0, x_80_3_d1, x_80_3_d2, x_80_3_d3, x_80_3_d4, x_80_5_d0, x_80_5_d1, x_80_5_d2, x_80_5_d3, x_80_5_d4, x_79_4_12_d0, x_79_4_12_d1, x_79_4_12_d2, x_79_4_12_d3, x_79_4_12_d4, x_10_4_I, x_10_4_A, x_10_4_U, cb_ri, cb_rl, cb_rv, cb_th, cb_ite, ps_s, ps_n, u_368_2641, u_368_2677, u_368_2694, o1, o2, o3, o4, o5, wr, r1, tc, r5, q2, jc_self, Int.reduceEq, Int.reduceLT, Int.reduceLE, reduceIte, Int.reduceAdd, Int.reduceSub, Int.reduceMul, Int.reduceNeg, Int.reduceToNat, Bool.false_eq_true, eq_self, if_pos, if_neg]
  · have c1 : cl (lv + 84) _ _ _ = _ := c1
    have r1 : cl (lv + 85) 296 [aA 12 0, aI (h 22 0 ((i : Int) + 1).toNat)] _ = _ := r1
    have tc := thrown_c (lv + 84) h2
    rw [r3] at tc
    have wr := wb_span (lv + 83) (h 22 0 ((i : Int) + 1).toNat) h h1 e c1 hT
    obtain ⟨q2, q7⟩ := K_th c1 (Kh_self h)
    refine ⟨1, h2, aI (t2 e : Int), aI b, by omega, ⟨I2, Z_ri r1 (Z_th c1 z), fun j => k1 j, k2⟩, ?_⟩
    generalize t2 e = te at *
    have ht0 : ¬ (te : Int) = 0 := by omega
    simp (disch := omega) only [x_1, x_7_4_I, x_7_4_A, x_7_4_U, x_61, x_4_4, x_6_0, x_54, x_12, x_66, x_53, x_17, x_6_1, x_11, x_79_6_11_d0, x_79_6_11_d1, x_79_6_11_d2, x_79_6_11_d3, x_79_6_11_d4, x_6_2, x_79_6_12_d0, x_79_6_12_d1, x_79_6_12_d2, x_79_6_12_d3, x_79_6_12_d4, x_62, x_85, x_79_2_11_d0, x_79_2_11_d1, x_79_2_11_d2, x_79_2_11_d3, x_79_2_11_d4, x_79_2_12_d0, x_79_2_12_d1, x_79_2_12_d2, x_79_2_12_d3, x_79_2_12_d4, x_6_3, x_80_2_d0, x_80_2_d1, x_80_2_d2, x_80_2_d3, x_80_2_d4, x_7_5_I, x_7_5_A, x_7_5_U, x_79_1_12_d0, x_79_1_12_d1, x_79_1_12_d2, x_79_1_12_d3, x_79_1_12_d4, x_7_6_I, x_7_6_A, x_7_6_U, x_4_5, x_69, x_42, x_4_6, x_23, x_32, x_68, x_60, x_79_1_11_d0, x_79_1_11_d1, x_79_1_11_d2, x_79_1_11_d3, x_79_1_11_d4, x_80_4_d0, x_80_4_d1, x_80_4_d2, x_80_4_d3, x_80_4_d4, x_79_3_12_d0, x_79_3_12_d1, x_79_3_12_d2, x_79_3_12_d3, x_79_3_12_d4, x_2, x_80_3_d0, x_80_3_d1, x_80_3_d2, x_80_3_d3, x_80_3_d4, x_80_5_d0, x_80_5_d1, x_80_5_d2, x_80_5_d3, x_80_5_d4, x_79_4_12_d0, x_79_4_12_d1, x_79_4_12_d2, x_79_4_12_d3, x_79_4_12_d4, x_10_4_I, x_10_4_A, x_10_4_U, cb_ri, cb_rl, cb_rv, cb_th, cb_ite, ps_s, ps_n, u_368_2641, u_368_2677, u_368_2694, o1, o2, o3, o4, o5, wr, cb_r1, r1, tc, q2, ht0, Int.reduceEq, Int.reduceLT, Int.reduceLE, reduceIte, Int.reduceAdd, Int.reduceSub, Int.reduceMul, Int.reduceNeg, Int.reduceToNat, Bool.false_eq_true, eq_self, if_pos, if_neg]
theorem lw_cross (lv i H N : Nat) (h : Hp) (I : INV h H N) (z : Zh h) (hb : h 27 0 0 ≤ 3072) (hi : (i : Int) + 6 ≤ h 27 0 0) : STEP lv 2697 i h := by
  intro v5 v6
  obtain ⟨o1, o2, o3, o4, o5⟩ := ob_i _ hb hi
  obtain ⟨v, h1, h2, c1, r1, I2, k1, k2⟩ := ag_cross (lv + 5) (lv + 5) H N  h I
  have c1 : cl (lv + 85) _ _ _ = _ := c1
  have r1 : cl (lv + 85) _ _ _ = _ := r1
  obtain ⟨q2, q7⟩ := K_ri c1 (Kh_self h)
  refine ⟨0, h2, v5, v6, by omega, ⟨I2, Z_ri r1 (Z_ri c1 z), fun j => k1 j, k2⟩, ?_⟩
  rw [addc_0]
  simp (disch := omega) only [x_1, x_7_4_I, x_7_4_A, x_7_4_U, x_61, x_4_4, x_6_0, x_54, x_12, x_66, x_53, x_17, x_6_1, x_11, x_79_6_11_d0, x_79_6_11_d1, x_79_6_11_d2, x_79_6_11_d3, x_79_6_11_d4, x_6_2, x_79_6_12_d0, x_79_6_12_d1, x_79_6_12_d2, x_79_6_12_d3, x_79_6_12_d4, x_62, x_85, x_79_2_11_d0, x_79_2_11_d1, x_79_2_11_d2, x_79_2_11_d3, x_79_2_11_d4, x_79_2_12_d0, x_79_2_12_d1, x_79_2_12_d2, x_79_2_12_d3, x_79_2_12_d4, x_6_3, x_80_2_d0, x_80_2_d1, x_80_2_d2, x_80_2_d3, x_80_2_d4, x_7_5_I, x_7_5_A, x_7_5_U, x_79_1_12_d0, x_79_1_12_d1, x_79_1_12_d2, x_79_1_12_d3, x_79_1_12_d4, x_7_6_I, x_7_6_A, x_7_6_U, x_4_5, x_69, x_42, x_4_6, x_23, x_32, x_68, x_60, x_79_1_11_d0, x_79_1_11_d1, x_79_1_11_d2, x_79_1_11_d3, x_79_1_11_d4, x_80_4_d0, x_80_4_d1, x_80_4_d2, x_80_4_d3, x_80_4_d4, x_79_3_12_d0, x_79_3_12_d1, x_79_3_12_d2, x_79_3_12_d3, x_79_3_12_d4, x_2, x_80_3_d0, x_80_3_d1, x_80_3_d2, x_80_3_d3, x_80_3_d4, x_80_5_d0, x_80_5_d1, x_80_5_d2, x_80_5_d3, x_80_5_d4, x_79_4_12_d0, x_79_4_12_d1, x_79_4_12_d2, x_79_4_12_d3, x_79_4_12_d4, x_10_4_I, x_10_4_A, x_10_4_U, cb_ri, cb_rl, cb_rv, cb_th, cb_ite, ps_s, ps_n, u_368_2697, o1, o2, o3, o4, o5, c1, r1, q2, Int.reduceEq, Int.reduceLT, Int.reduceLE, reduceIte, Int.reduceAdd, Int.reduceSub, Int.reduceMul, Int.reduceNeg, Int.reduceToNat, Bool.false_eq_true, eq_self, if_pos, if_neg]
theorem lw_hardest (lv i H N : Nat) (h : Hp) (I : INV h H N) (z : Zh h) (hb : h 27 0 0 ≤ 3072) (hi : (i : Int) + 6 ≤ h 27 0 0) : STEP lv 2710 i h := by
  intro v5 v6
  obtain ⟨o1, o2, o3, o4, o5⟩ := ob_i _ hb hi
  obtain ⟨v, h1, h2, c1, r1, I2, k1, k2⟩ := ag_hardest (lv + 5) (lv + 5) H N  h I
  have c1 : cl (lv + 85) _ _ _ = _ := c1
  have r1 : cl (lv + 85) _ _ _ = _ := r1
  obtain ⟨q2, q7⟩ := K_ri c1 (Kh_self h)
  refine ⟨0, h2, v5, v6, by omega, ⟨I2, Z_ri r1 (Z_ri c1 z), fun j => k1 j, k2⟩, ?_⟩
  rw [addc_0]
  simp (disch := omega) only [x_1, x_7_4_I, x_7_4_A, x_7_4_U, x_61, x_4_4, x_6_0, x_54, x_12, x_66, x_53, x_17, x_6_1, x_11, x_79_6_11_d0, x_79_6_11_d1, x_79_6_11_d2, x_79_6_11_d3, x_79_6_11_d4, x_6_2, x_79_6_12_d0, x_79_6_12_d1, x_79_6_12_d2, x_79_6_12_d3, x_79_6_12_d4, x_62, x_85, x_79_2_11_d0, x_79_2_11_d1, x_79_2_11_d2, x_79_2_11_d3, x_79_2_11_d4, x_79_2_12_d0, x_79_2_12_d1, x_79_2_12_d2, x_79_2_12_d3, x_79_2_12_d4, x_6_3, x_80_2_d0, x_80_2_d1, x_80_2_d2, x_80_2_d3, x_80_2_d4, x_7_5_I, x_7_5_A, x_7_5_U, x_79_1_12_d0, x_79_1_12_d1, x_79_1_12_d2, x_79_1_12_d3, x_79_1_12_d4, x_7_6_I, x_7_6_A, x_7_6_U, x_4_5, x_69, x_42, x_4_6, x_23, x_32, x_68, x_60, x_79_1_11_d0, x_79_1_11_d1, x_79_1_11_d2, x_79_1_11_d3, x_79_1_11_d4, x_80_4_d0, x_80_4_d1, x_80_4_d2, x_80_4_d3, x_80_4_d4, x_79_3_12_d0, x_79_3_12_d1, x_79_3_12_d2, x_79_3_12_d3, x_79_3_12_d4, x_2, x_80_3_d0, x_80_3_d1, x_80_3_d2, x_80_3_d3, x_80_3_d4, x_80_5_d0, x_80_5_d1, x_80_5_d2, x_80_5_d3, x_80_5_d4, x_79_4_12_d0, x_79_4_12_d1, x_79_4_12_d2, x_79_4_12_d3, x_79_4_12_d4, x_10_4_I, x_10_4_A, x_10_4_U, cb_ri, cb_rl, cb_rv, cb_th, cb_ite, ps_s, ps_n, u_368_2710, o1, o2, o3, o4, o5, c1, r1, q2, Int.reduceEq, Int.reduceLT, Int.reduceLE, reduceIte, Int.reduceAdd, Int.reduceSub, Int.reduceMul, Int.reduceNeg, Int.reduceToNat, Bool.false_eq_true, eq_self, if_pos, if_neg]
theorem lw_tires (lv i H N : Nat) (h : Hp) (I : INV h H N) (z : Zh h) (hb : h 27 0 0 ≤ 3072) (hi : (i : Int) + 6 ≤ h 27 0 0) : STEP lv 2723 i h := by
  intro v5 v6
  obtain ⟨o1, o2, o3, o4, o5⟩ := ob_i _ hb hi
  obtain ⟨v, h1, h2, c1, r1, I2, k1, k2⟩ := ag_tires (lv + 5) (lv + 5) H N  h I
  have c1 : cl (lv + 85) _ _ _ = _ := c1
  have r1 : cl (lv + 85) _ _ _ = _ := r1
  obtain ⟨q2, q7⟩ := K_ri c1 (Kh_self h)
  refine ⟨0, h2, v5, v6, by omega, ⟨I2, Z_ri r1 (Z_ri c1 z), fun j => k1 j, k2⟩, ?_⟩
  rw [addc_0]
  simp (disch := omega) only [x_1, x_7_4_I, x_7_4_A, x_7_4_U, x_61, x_4_4, x_6_0, x_54, x_12, x_66, x_53, x_17, x_6_1, x_11, x_79_6_11_d0, x_79_6_11_d1, x_79_6_11_d2, x_79_6_11_d3, x_79_6_11_d4, x_6_2, x_79_6_12_d0, x_79_6_12_d1, x_79_6_12_d2, x_79_6_12_d3, x_79_6_12_d4, x_62, x_85, x_79_2_11_d0, x_79_2_11_d1, x_79_2_11_d2, x_79_2_11_d3, x_79_2_11_d4, x_79_2_12_d0, x_79_2_12_d1, x_79_2_12_d2, x_79_2_12_d3, x_79_2_12_d4, x_6_3, x_80_2_d0, x_80_2_d1, x_80_2_d2, x_80_2_d3, x_80_2_d4, x_7_5_I, x_7_5_A, x_7_5_U, x_79_1_12_d0, x_79_1_12_d1, x_79_1_12_d2, x_79_1_12_d3, x_79_1_12_d4, x_7_6_I, x_7_6_A, x_7_6_U, x_4_5, x_69, x_42, x_4_6, x_23, x_32, x_68, x_60, x_79_1_11_d0, x_79_1_11_d1, x_79_1_11_d2, x_79_1_11_d3, x_79_1_11_d4, x_80_4_d0, x_80_4_d1, x_80_4_d2, x_80_4_d3, x_80_4_d4, x_79_3_12_d0, x_79_3_12_d1, x_79_3_12_d2, x_79_3_12_d3, x_79_3_12_d4, x_2, x_80_3_d0, x_80_3_d1, x_80_3_d2, x_80_3_d3, x_80_3_d4, x_80_5_d0, x_80_5_d1, x_80_5_d2, x_80_5_d3, x_80_5_d4, x_79_4_12_d0, x_79_4_12_d1, x_79_4_12_d2, x_79_4_12_d3, x_79_4_12_d4, x_10_4_I, x_10_4_A, x_10_4_U, cb_ri, cb_rl, cb_rv, cb_th, cb_ite, ps_s, ps_n, u_368_2723, o1, o2, o3, o4, o5, c1, r1, q2, Int.reduceEq, Int.reduceLT, Int.reduceLE, reduceIte, Int.reduceAdd, Int.reduceSub, Int.reduceMul, Int.reduceNeg, Int.reduceToNat, Bool.false_eq_true, eq_self, if_pos, if_neg]
theorem lw_alike (lv i H N : Nat) (h : Hp) (I : INV h H N) (z : Zh h) (hb : h 27 0 0 ≤ 3072) (hi : (i : Int) + 6 ≤ h 27 0 0) : STEP lv 2736 i h := by
  intro v5 v6
  obtain ⟨o1, o2, o3, o4, o5⟩ := ob_i _ hb hi
  obtain ⟨v, h1, h2, c1, r1, I2, k1, k2⟩ := ag_alike (lv + 5) (lv + 5) H N  h I
  have c1 : cl (lv + 85) _ _ _ = _ := c1
  have r1 : cl (lv + 85) _ _ _ = _ := r1
  obtain ⟨q2, q7⟩ := K_ri c1 (Kh_self h)
  refine ⟨0, h2, v5, v6, by omega, ⟨I2, Z_ri r1 (Z_ri c1 z), fun j => k1 j, k2⟩, ?_⟩
  rw [addc_0]
  simp (disch := omega) only [x_1, x_7_4_I, x_7_4_A, x_7_4_U, x_61, x_4_4, x_6_0, x_54, x_12, x_66, x_53, x_17, x_6_1, x_11, x_79_6_11_d0, x_79_6_11_d1, x_79_6_11_d2, x_79_6_11_d3, x_79_6_11_d4, x_6_2, x_79_6_12_d0, x_79_6_12_d1, x_79_6_12_d2, x_79_6_12_d3, x_79_6_12_d4, x_62, x_85, x_79_2_11_d0, x_79_2_11_d1, x_79_2_11_d2, x_79_2_11_d3, x_79_2_11_d4, x_79_2_12_d0, x_79_2_12_d1, x_79_2_12_d2, x_79_2_12_d3, x_79_2_12_d4, x_6_3, x_80_2_d0, x_80_2_d1, x_80_2_d2, x_80_2_d3, x_80_2_d4, x_7_5_I, x_7_5_A, x_7_5_U, x_79_1_12_d0, x_79_1_12_d1, x_79_1_12_d2, x_79_1_12_d3, x_79_1_12_d4, x_7_6_I, x_7_6_A, x_7_6_U, x_4_5, x_69, x_42, x_4_6, x_23, x_32, x_68, x_60, x_79_1_11_d0, x_79_1_11_d1, x_79_1_11_d2, x_79_1_11_d3, x_79_1_11_d4, x_80_4_d0, x_80_4_d1, x_80_4_d2, x_80_4_d3, x_80_4_d4, x_79_3_12_d0, x_79_3_12_d1, x_79_3_12_d2, x_79_3_12_d3, x_79_3_12_d4, x_2, x_80_3_d0, x_80_3_d1, x_80_3_d2, x_80_3_d3, x_80_3_d4, x_80_5_d0, x_80_5_d1, x_80_5_d2, x_80_5_d3, x_80_5_d4, x_79_4_12_d0, x_79_4_12_d1, x_79_4_12_d2, x_79_4_12_d3, x_79_4_12_d4, x_10_4_I, x_10_4_A, x_10_4_U, cb_ri, cb_rl, cb_rv, cb_th, cb_ite, ps_s, ps_n, u_368_2736, o1, o2, o3, o4, o5, c1, r1, q2, Int.reduceEq, Int.reduceLT, Int.reduceLE, reduceIte, Int.reduceAdd, Int.reduceSub, Int.reduceMul, Int.reduceNeg, Int.reduceToNat, Bool.false_eq_true, eq_self, if_pos, if_neg]
theorem lw_ahead (lv i H N : Nat) (h : Hp) (I : INV h H N) (z : Zh h) (hb : h 27 0 0 ≤ 3072) (hi : (i : Int) + 6 ≤ h 27 0 0) : STEP lv 2749 i h := by
  intro v5 v6
  obtain ⟨o1, o2, o3, o4, o5⟩ := ob_i _ hb hi
  rcases (ag_ahead (lv + 4) (lv + 5) H N (h 22 0 ((i : Int) + 1).toNat) (h 22 0 ((i : Int) + 2).toNat) (h 22 0 ((i : Int) + 3).toNat) h I) with ⟨v, h1, c1, h2, r1, r3, r5, I2, k1, k2⟩ | ⟨e, h1, c1, hT, b, h2, r1, r3, I2, k1, k2⟩
  · have c1 : cl (lv + 84) _ _ _ = _ := c1
    have r1 : cl (lv + 85) 302 [aA 12 0, aI (h 22 0 ((i : Int) + 1).toNat), aI (h 22 0 ((i : Int) + 2).toNat), aI (h 22 0 ((i : Int) + 3).toNat)] _ = _ := r1
    have tc := thrown_c (lv + 84) h2
    rw [r3] at tc
    have wr := wa_ahead (lv + 83) (h 22 0 ((i : Int) + 1).toNat) (h 22 0 ((i : Int) + 2).toNat) (h 22 0 ((i : Int) + 3).toNat) h h1 v c1
    obtain ⟨q2, q7⟩ := Kh_o (t := 25) (k := 0) (j := 0) (v := v) (K_ri c1 (Kh_self h)) (by omega)
    refine ⟨0, h2, aI 0, aI v, by omega, ⟨I2, Z_ri r1 (Zh_o (Z_ri c1 z) (by omega)), fun j => k1 j, k2⟩, ?_⟩
    rw [addc_0]
    generalize hset h1 25 0 0 v = g1 at *
    simp (disch := omega) only [x_1, x_7_4_I, x_7_4_A, x_7_4_U, x_61, x_4_4, x_6_0, x_54, x_12, x_66, x_53, x_17, x_6_1, x_11, x_79_6_11_d0, x_79_6_11_d1, x_79_6_11_d2, x_79_6_11_d3, x_79_6_11_d4, x_6_2, x_79_6_12_d0, x_79_6_12_d1, x_79_6_12_d2, x_79_6_12_d3, x_79_6_12_d4, x_62, x_85, x_79_2_11_d0, x_79_2_11_d1, x_79_2_11_d2, x_79_2_11_d3, x_79_2_11_d4, x_79_2_12_d0, x_79_2_12_d1, x_79_2_12_d2, x_79_2_12_d3, x_79_2_12_d4, x_6_3, x_80_2_d0, x_80_2_d1, x_80_2_d2, x_80_2_d3, x_80_2_d4, x_7_5_I, x_7_5_A, x_7_5_U, x_79_1_12_d0, x_79_1_12_d1, x_79_1_12_d2, x_79_1_12_d3, x_79_1_12_d4, x_7_6_I, x_7_6_A, x_7_6_U, x_4_5, x_69, x_42, x_4_6, x_23, x_32, x_68, x_60, x_79_1_11_d0, x_79_1_11_d1, x_79_1_11_d2, x_79_1_11_d3, x_79_1_11_d4, x_80_4_d0, x_80_4_d1, x_80_4_d2, x_80_4_d3, x_80_4_d4, x_79_3_12_d0, x_79_3_12_d1, x_79_3_12_d2, x_79_3_12_d3, x_79_3_12_d4, x_2, x_80_3_d0, x_80_3_d1, x_80_3_d2, x_80_3_d3, x_80_3_d4, x_80_5_d0, x_80_5_d1, x_80_5_d2, x_80_5_d3, x_80_5_d4, x_79_4_12_d0, x_79_4_12_d1, x_79_4_12_d2, x_79_4_12_d3, x_79_4_12_d4, x_10_4_I, x_10_4_A, x_10_4_U, cb_ri, cb_rl, cb_rv, cb_th, cb_ite, ps_s, ps_n, u_368_2749, u_368_2809, u_368_2826, o1, o2, o3, o4, o5, wr, r1, tc, r5, q2, jc_self, Int.reduceEq, Int.reduceLT, Int.reduceLE, reduceIte, Int.reduceAdd, Int.reduceSub, Int.reduceMul, Int.reduceNeg, Int.reduceToNat, Bool.false_eq_true, eq_self, if_pos, if_neg]
  · have c1 : cl (lv + 84) _ _ _ = _ := c1
    have r1 : cl (lv + 85) 302 [aA 12 0, aI (h 22 0 ((i : Int) + 1).toNat), aI (h 22 0 ((i : Int) + 2).toNat), aI (h 22 0 ((i : Int) + 3).toNat)] _ = _ := r1
    have tc := thrown_c (lv + 84) h2
    rw [r3] at tc
    have wr := wb_ahead (lv + 83) (h 22 0 ((i : Int) + 1).toNat) (h 22 0 ((i : Int) + 2).toNat) (h 22 0 ((i : Int) + 3).toNat) h h1 e c1 hT
    obtain ⟨q2, q7⟩ := K_th c1 (Kh_self h)
    refine ⟨1, h2, aI (t204 e : Int), aI b, by omega, ⟨I2, Z_ri r1 (Z_th c1 z), fun j => k1 j, k2⟩, ?_⟩
    generalize t204 e = te at *
    have ht0 : ¬ (te : Int) = 0 := by omega
    simp (disch := omega) only [x_1, x_7_4_I, x_7_4_A, x_7_4_U, x_61, x_4_4, x_6_0, x_54, x_12, x_66, x_53, x_17, x_6_1, x_11, x_79_6_11_d0, x_79_6_11_d1, x_79_6_11_d2, x_79_6_11_d3, x_79_6_11_d4, x_6_2, x_79_6_12_d0, x_79_6_12_d1, x_79_6_12_d2, x_79_6_12_d3, x_79_6_12_d4, x_62, x_85, x_79_2_11_d0, x_79_2_11_d1, x_79_2_11_d2, x_79_2_11_d3, x_79_2_11_d4, x_79_2_12_d0, x_79_2_12_d1, x_79_2_12_d2, x_79_2_12_d3, x_79_2_12_d4, x_6_3, x_80_2_d0, x_80_2_d1, x_80_2_d2, x_80_2_d3, x_80_2_d4, x_7_5_I, x_7_5_A, x_7_5_U, x_79_1_12_d0, x_79_1_12_d1, x_79_1_12_d2, x_79_1_12_d3, x_79_1_12_d4, x_7_6_I, x_7_6_A, x_7_6_U, x_4_5, x_69, x_42, x_4_6, x_23, x_32, x_68, x_60, x_79_1_11_d0, x_79_1_11_d1, x_79_1_11_d2, x_79_1_11_d3, x_79_1_11_d4, x_80_4_d0, x_80_4_d1, x_80_4_d2, x_80_4_d3, x_80_4_d4, x_79_3_12_d0, x_79_3_12_d1, x_79_3_12_d2, x_79_3_12_d3, x_79_3_12_d4, x_2, x_80_3_d0, x_80_3_d1, x_80_3_d2, x_80_3_d3, x_80_3_d4, x_80_5_d0, x_80_5_d1, x_80_5_d2, x_80_5_d3, x_80_5_d4, x_79_4_12_d0, x_79_4_12_d1, x_79_4_12_d2, x_79_4_12_d3, x_79_4_12_d4, x_10_4_I, x_10_4_A, x_10_4_U, cb_ri, cb_rl, cb_rv, cb_th, cb_ite, ps_s, ps_n, u_368_2749, u_368_2809, u_368_2826, o1, o2, o3, o4, o5, wr, cb_r1, r1, tc, q2, ht0, Int.reduceEq, Int.reduceLT, Int.reduceLE, reduceIte, Int.reduceAdd, Int.reduceSub, Int.reduceMul, Int.reduceNeg, Int.reduceToNat, Bool.false_eq_true, eq_self, if_pos, if_neg]
theorem lw_trial (lv i H N : Nat) (h : Hp) (I : INV h H N) (z : Zh h) (hb : h 27 0 0 ≤ 3072) (hi : (i : Int) + 6 ≤ h 27 0 0) : STEP lv 2829 i h := by
  intro v5 v6
  obtain ⟨o1, o2, o3, o4, o5⟩ := ob_i _ hb hi
  by_cases cx : (h 22 0 ((i : Int) + 2).toNat) = 0
  · rcases (ag_trial (lv + 4) (lv + 5) H N (h 22 0 ((i : Int) + 1).toNat) false h I) with ⟨v, h1, c1, h2, r1, r3, r5, I2, k1, k2⟩ | ⟨e, h1, c1, hT, b, h2, r1, r3, I2, k1, k2⟩
    · have c1 : cl (lv + 84) _ _ _ = _ := c1
      have r1 : cl (lv + 85) 303 [aA 12 0, aI (h 22 0 ((i : Int) + 1).toNat), aI (0 : Int)] _ = _ := r1
      have tc := thrown_c (lv + 84) h2
      rw [r3] at tc
      have wr := wa_trial (lv + 83) (h 22 0 ((i : Int) + 1).toNat) (0 : Int) h h1 v c1
      obtain ⟨q2, q7⟩ := Kh_o (t := 25) (k := 0) (j := 0) (v := v) (K_ri c1 (Kh_self h)) (by omega)
      refine ⟨0, h2, aI 0, aI v, by omega, ⟨I2, Z_ri r1 (Zh_o (Z_ri c1 z) (by omega)), fun j => k1 j, k2⟩, ?_⟩
      rw [addc_0]
      generalize hset h1 25 0 0 v = g1 at *
      simp (disch := omega) only [x_1, x_7_4_I, x_7_4_A, x_7_4_U, x_61, x_4_4, x_6_0, x_54, x_12, x_66, x_53, x_17, x_6_1, x_11, x_79_6_11_d0, x_79_6_11_d1, x_79_6_11_d2, x_79_6_11_d3, x_79_6_11_d4, x_6_2, x_79_6_12_d0, x_79_6_12_d1, x_79_6_12_d2, x_79_6_12_d3, x_79_6_12_d4, x_62, x_85, x_79_2_11_d0, x_79_2_11_d1, x_79_2_11_d2, x_79_2_11_d3, x_79_2_11_d4, x_79_2_12_d0, x_79_2_12_d1, x_79_2_12_d2, x_79_2_12_d3, x_79_2_12_d4, x_6_3, x_80_2_d0, x_80_2_d1, x_80_2_d2, x_80_2_d3, x_80_2_d4, x_7_5_I, x_7_5_A, x_7_5_U, x_79_1_12_d0, x_79_1_12_d1, x_79_1_12_d2, x_79_1_12_d3, x_79_1_12_d4, x_7_6_I, x_7_6_A, x_7_6_U, x_4_5, x_69, x_42, x_4_6, x_23, x_32, x_68, x_60, x_79_1_11_d0, x_79_1_11_d1, x_79_1_11_d2, x_79_1_11_d3, x_79_1_11_d4, x_80_4_d0, x_80_4_d1, x_80_4_d2, x_80_4_d3, x_80_4_d4, x_79_3_12_d0, x_79_3_12_d1, x_79_3_12_d2, x_79_3_12_d3, x_79_3_12_d4, x_2, x_80_3_d0, x_80_3_d1, x_80_3_d2, x_80_3_d3, x_80_3_d4, x_80_5_d0, x_80_5_d1, x_80_5_d2, x_80_5_d3, x_80_5_d4, x_79_4_12_d0, x_79_4_12_d1, x_79_4_12_d2, x_79_4_12_d3, x_79_4_12_d4, x_10_4_I, x_10_4_A, x_10_4_U, cb_ri, cb_rl, cb_rv, cb_th, cb_ite, ps_s, ps_n, u_368_2829, u_368_2849, u_368_2850, u_368_2876, u_368_2877, u_368_2893, u_368_2910, o1, o2, o3, o4, o5, cx, wr, r1, tc, r5, q2, jc_self, Int.reduceEq, Int.reduceLT, Int.reduceLE, reduceIte, Int.reduceAdd, Int.reduceSub, Int.reduceMul, Int.reduceNeg, Int.reduceToNat, Bool.false_eq_true, eq_self, if_pos, if_neg]
    · have c1 : cl (lv + 84) _ _ _ = _ := c1
      have r1 : cl (lv + 85) 303 [aA 12 0, aI (h 22 0 ((i : Int) + 1).toNat), aI (0 : Int)] _ = _ := r1
      have tc := thrown_c (lv + 84) h2
      rw [r3] at tc
      have wr := wb_trial (lv + 83) (h 22 0 ((i : Int) + 1).toNat) (0 : Int) h h1 e c1 hT
      obtain ⟨q2, q7⟩ := K_th c1 (Kh_self h)
      refine ⟨1, h2, aI (t0 e : Int), aI b, by omega, ⟨I2, Z_ri r1 (Z_th c1 z), fun j => k1 j, k2⟩, ?_⟩
      generalize t0 e = te at *
      have ht0 : ¬ (te : Int) = 0 := by omega
      simp (disch := omega) only [x_1, x_7_4_I, x_7_4_A, x_7_4_U, x_61, x_4_4, x_6_0, x_54, x_12, x_66, x_53, x_17, x_6_1, x_11, x_79_6_11_d0, x_79_6_11_d1, x_79_6_11_d2, x_79_6_11_d3, x_79_6_11_d4, x_6_2, x_79_6_12_d0, x_79_6_12_d1, x_79_6_12_d2, x_79_6_12_d3, x_79_6_12_d4, x_62, x_85, x_79_2_11_d0, x_79_2_11_d1, x_79_2_11_d2, x_79_2_11_d3, x_79_2_11_d4, x_79_2_12_d0, x_79_2_12_d1, x_79_2_12_d2, x_79_2_12_d3, x_79_2_12_d4, x_6_3, x_80_2_d0, x_80_2_d1, x_80_2_d2, x_80_2_d3, x_80_2_d4, x_7_5_I, x_7_5_A, x_7_5_U, x_79_1_12_d0, x_79_1_12_d1, x_79_1_12_d2, x_79_1_12_d3, x_79_1_12_d4, x_7_6_I, x_7_6_A, x_7_6_U, x_4_5, x_69, x_42, x_4_6, x_23, x_32, x_68, x_60, x_79_1_11_d0, x_79_1_11_d1, x_79_1_11_d2, x_79_1_11_d3, x_79_1_11_d4, x_80_4_d0, x_80_4_d1, x_80_4_d2, x_80_4_d3, x_80_4_d4, x_79_3_12_d0, x_79_3_12_d1, x_79_3_12_d2, x_79_3_12_d3, x_79_3_12_d4, x_2, x_80_3_d0, x_80_3_d1, x_80_3_d2, x_80_3_d3, x_80_3_d4, x_80_5_d0, x_80_5_d1, x_80_5_d2, x_80_5_d3, x_80_5_d4, x_79_4_12_d0, x_79_4_12_d1, x_79_4_12_d2, x_79_4_12_d3, x_79_4_12_d4, x_10_4_I, x_10_4_A, x_10_4_U, cb_ri, cb_rl, cb_rv, cb_th, cb_ite, ps_s, ps_n, u_368_2829, u_368_2849, u_368_2850, u_368_2876, u_368_2877, u_368_2893, u_368_2910, o1, o2, o3, o4, o5, cx, wr, cb_r1, r1, tc, q2, ht0, Int.reduceEq, Int.reduceLT, Int.reduceLE, reduceIte, Int.reduceAdd, Int.reduceSub, Int.reduceMul, Int.reduceNeg, Int.reduceToNat, Bool.false_eq_true, eq_self, if_pos, if_neg]
  · rcases (ag_trial (lv + 4) (lv + 5) H N (h 22 0 ((i : Int) + 1).toNat) true h I) with ⟨v, h1, c1, h2, r1, r3, r5, I2, k1, k2⟩ | ⟨e, h1, c1, hT, b, h2, r1, r3, I2, k1, k2⟩
    · have c1 : cl (lv + 84) _ _ _ = _ := c1
      have r1 : cl (lv + 85) 303 [aA 12 0, aI (h 22 0 ((i : Int) + 1).toNat), aI (1 : Int)] _ = _ := r1
      have tc := thrown_c (lv + 84) h2
      rw [r3] at tc
      have wr := wa_trial (lv + 83) (h 22 0 ((i : Int) + 1).toNat) (1 : Int) h h1 v c1
      obtain ⟨q2, q7⟩ := Kh_o (t := 25) (k := 0) (j := 0) (v := v) (K_ri c1 (Kh_self h)) (by omega)
      refine ⟨0, h2, aI 0, aI v, by omega, ⟨I2, Z_ri r1 (Zh_o (Z_ri c1 z) (by omega)), fun j => k1 j, k2⟩, ?_⟩
      rw [addc_0]
      generalize hset h1 25 0 0 v = g1 at *
      simp (disch := omega) only [x_1, x_7_4_I, x_7_4_A, x_7_4_U, x_61, x_4_4, x_6_0, x_54, x_12, x_66, x_53, x_17, x_6_1, x_11, x_79_6_11_d0, x_79_6_11_d1, x_79_6_11_d2, x_79_6_11_d3, x_79_6_11_d4, x_6_2, x_79_6_12_d0, x_79_6_12_d1, x_79_6_12_d2, x_79_6_12_d3, x_79_6_12_d4, x_62, x_85, x_79_2_11_d0, x_79_2_11_d1, x_79_2_11_d2, x_79_2_11_d3, x_79_2_11_d4, x_79_2_12_d0, x_79_2_12_d1, x_79_2_12_d2, x_79_2_12_d3, x_79_2_12_d4, x_6_3, x_80_2_d0, x_80_2_d1, x_80_2_d2, x_80_2_d3, x_80_2_d4, x_7_5_I, x_7_5_A, x_7_5_U, x_79_1_12_d0, x_79_1_12_d1, x_79_1_12_d2, x_79_1_12_d3, x_79_1_12_d4, x_7_6_I, x_7_6_A, x_7_6_U, x_4_5, x_69, x_42, x_4_6, x_23, x_32, x_68, x_60, x_79_1_11_d0, x_79_1_11_d1, x_79_1_11_d2, x_79_1_11_d3, x_79_1_11_d4, x_80_4_d0, x_80_4_d1, x_80_4_d2, x_80_4_d3, x_80_4_d4, x_79_3_12_d0, x_79_3_12_d1, x_79_3_12_d2, x_79_3_12_d3, x_79_3_12_d4, x_2, x_80_3_d0, x_80_3_d1, x_80_3_d2, x_80_3_d3, x_80_3_d4, x_80_5_d0, x_80_5_d1, x_80_5_d2, x_80_5_d3, x_80_5_d4, x_79_4_12_d0, x_79_4_12_d1, x_79_4_12_d2, x_79_4_12_d3, x_79_4_12_d4, x_10_4_I, x_10_4_A, x_10_4_U, cb_ri, cb_rl, cb_rv, cb_th, cb_ite, ps_s, ps_n, u_368_2829, u_368_2849, u_368_2850, u_368_2876, u_368_2877, u_368_2893, u_368_2910, o1, o2, o3, o4, o5, cx, wr, r1, tc, r5, q2, jc_self, Int.reduceEq, Int.reduceLT, Int.reduceLE, reduceIte, Int.reduceAdd, Int.reduceSub, Int.reduceMul, Int.reduceNeg, Int.reduceToNat, Bool.false_eq_true, eq_self, if_pos, if_neg]
    · have c1 : cl (lv + 84) _ _ _ = _ := c1
      have r1 : cl (lv + 85) 303 [aA 12 0, aI (h 22 0 ((i : Int) + 1).toNat), aI (1 : Int)] _ = _ := r1
      have tc := thrown_c (lv + 84) h2
      rw [r3] at tc
      have wr := wb_trial (lv + 83) (h 22 0 ((i : Int) + 1).toNat) (1 : Int) h h1 e c1 hT
      obtain ⟨q2, q7⟩ := K_th c1 (Kh_self h)
      refine ⟨1, h2, aI (t0 e : Int), aI b, by omega, ⟨I2, Z_ri r1 (Z_th c1 z), fun j => k1 j, k2⟩, ?_⟩
      generalize t0 e = te at *
      have ht0 : ¬ (te : Int) = 0 := by omega
      simp (disch := omega) only [x_1, x_7_4_I, x_7_4_A, x_7_4_U, x_61, x_4_4, x_6_0, x_54, x_12, x_66, x_53, x_17, x_6_1, x_11, x_79_6_11_d0, x_79_6_11_d1, x_79_6_11_d2, x_79_6_11_d3, x_79_6_11_d4, x_6_2, x_79_6_12_d0, x_79_6_12_d1, x_79_6_12_d2, x_79_6_12_d3, x_79_6_12_d4, x_62, x_85, x_79_2_11_d0, x_79_2_11_d1, x_79_2_11_d2, x_79_2_11_d3, x_79_2_11_d4, x_79_2_12_d0, x_79_2_12_d1, x_79_2_12_d2, x_79_2_12_d3, x_79_2_12_d4, x_6_3, x_80_2_d0, x_80_2_d1, x_80_2_d2, x_80_2_d3, x_80_2_d4, x_7_5_I, x_7_5_A, x_7_5_U, x_79_1_12_d0, x_79_1_12_d1, x_79_1_12_d2, x_79_1_12_d3, x_79_1_12_d4, x_7_6_I, x_7_6_A, x_7_6_U, x_4_5, x_69, x_42, x_4_6, x_23, x_32, x_68, x_60, x_79_1_11_d0, x_79_1_11_d1, x_79_1_11_d2, x_79_1_11_d3, x_79_1_11_d4, x_80_4_d0, x_80_4_d1, x_80_4_d2, x_80_4_d3, x_80_4_d4, x_79_3_12_d0, x_79_3_12_d1, x_79_3_12_d2, x_79_3_12_d3, x_79_3_12_d4, x_2, x_80_3_d0, x_80_3_d1, x_80_3_d2, x_80_3_d3, x_80_3_d4, x_80_5_d0, x_80_5_d1, x_80_5_d2, x_80_5_d3, x_80_5_d4, x_79_4_12_d0, x_79_4_12_d1, x_79_4_12_d2, x_79_4_12_d3, x_79_4_12_d4, x_10_4_I, x_10_4_A, x_10_4_U, cb_ri, cb_rl, cb_rv, cb_th, cb_ite, ps_s, ps_n, u_368_2829, u_368_2849, u_368_2850, u_368_2876, u_368_2877, u_368_2893, u_368_2910, o1, o2, o3, o4, o5, cx, wr, cb_r1, r1, tc, q2, ht0, Int.reduceEq, Int.reduceLT, Int.reduceLE, reduceIte, Int.reduceAdd, Int.reduceSub, Int.reduceMul, Int.reduceNeg, Int.reduceToNat, Bool.false_eq_true, eq_self, if_pos, if_neg]
theorem lw_bounds (lv i H N : Nat) (h : Hp) (I : INV h H N) (z : Zh h) (hb : h 27 0 0 ≤ 3072) (hi : (i : Int) + 6 ≤ h 27 0 0) : STEP lv 2913 i h := by
  intro v5 v6
  obtain ⟨o1, o2, o3, o4, o5⟩ := ob_i _ hb hi
  by_cases cx : (h 22 0 ((i : Int) + 2).toNat) = 0
  · rcases (ag_bounds (lv + 4) (lv + 5) H N (h 22 0 ((i : Int) + 1).toNat) false h I) with ⟨v, h1, c1, h2, r1, r3, r5, I2, k1, k2⟩ | ⟨e, h1, c1, hT, b, h2, r1, r3, I2, k1, k2⟩
    · have c1 : cl (lv + 84) _ _ _ = _ := c1
      have r1 : cl (lv + 85) 304 [aA 12 0, aI (h 22 0 ((i : Int) + 1).toNat), aI (0 : Int)] _ = _ := r1
      have tc := thrown_c (lv + 84) h2
      rw [r3] at tc
      have wr := wa_bounds (lv + 83) (h 22 0 ((i : Int) + 1).toNat) (0 : Int) h h1 v c1
      obtain ⟨q2, q7⟩ := Kh_o (t := 25) (k := 0) (j := 0) (v := v) (K_ri c1 (Kh_self h)) (by omega)
      refine ⟨0, h2, aI 0, aI v, by omega, ⟨I2, Z_ri r1 (Zh_o (Z_ri c1 z) (by omega)), fun j => k1 j, k2⟩, ?_⟩
      rw [addc_0]
      generalize hset h1 25 0 0 v = g1 at *
      simp (disch := omega) only [x_1, x_7_4_I, x_7_4_A, x_7_4_U, x_61, x_4_4, x_6_0, x_54, x_12, x_66, x_53, x_17, x_6_1, x_11, x_79_6_11_d0, x_79_6_11_d1, x_79_6_11_d2, x_79_6_11_d3, x_79_6_11_d4, x_6_2, x_79_6_12_d0, x_79_6_12_d1, x_79_6_12_d2, x_79_6_12_d3, x_79_6_12_d4, x_62, x_85, x_79_2_11_d0, x_79_2_11_d1, x_79_2_11_d2, x_79_2_11_d3, x_79_2_11_d4, x_79_2_12_d0, x_79_2_12_d1, x_79_2_12_d2, x_79_2_12_d3, x_79_2_12_d4, x_6_3, x_80_2_d0, x_80_2_d1, x_80_2_d2, x_80_2_d3, x_80_2_d4, x_7_5_I, x_7_5_A, x_7_5_U, x_79_1_12_d0, x_79_1_12_d1, x_79_1_12_d2, x_79_1_12_d3, x_79_1_12_d4, x_7_6_I, x_7_6_A, x_7_6_U, x_4_5, x_69, x_42, x_4_6, x_23, x_32, x_68, x_60, x_79_1_11_d0, x_79_1_11_d1, x_79_1_11_d2, x_79_1_11_d3, x_79_1_11_d4, x_80_4_d0, x_80_4_d1, x_80_4_d2, x_80_4_d3, x_80_4_d4, x_79_3_12_d0, x_79_3_12_d1, x_79_3_12_d2, x_79_3_12_d3, x_79_3_12_d4, x_2, x_80_3_d0, x_80_3_d1, x_80_3_d2, x_80_3_d3, x_80_3_d4, x_80_5_d0, x_80_5_d1, x_80_5_d2, x_80_5_d3, x_80_5_d4, x_79_4_12_d0, x_79_4_12_d1, x_79_4_12_d2, x_79_4_12_d3, x_79_4_12_d4, x_10_4_I, x_10_4_A, x_10_4_U, cb_ri, cb_rl, cb_rv, cb_th, cb_ite, ps_s, ps_n, u_368_2913, u_368_2933, u_368_2934, u_368_2960, u_368_2961, u_368_2977, u_368_2994, o1, o2, o3, o4, o5, cx, wr, r1, tc, r5, q2, jc_self, Int.reduceEq, Int.reduceLT, Int.reduceLE, reduceIte, Int.reduceAdd, Int.reduceSub, Int.reduceMul, Int.reduceNeg, Int.reduceToNat, Bool.false_eq_true, eq_self, if_pos, if_neg]
    · have c1 : cl (lv + 84) _ _ _ = _ := c1
      have r1 : cl (lv + 85) 304 [aA 12 0, aI (h 22 0 ((i : Int) + 1).toNat), aI (0 : Int)] _ = _ := r1
      have tc := thrown_c (lv + 84) h2
      rw [r3] at tc
      have wr := wb_bounds (lv + 83) (h 22 0 ((i : Int) + 1).toNat) (0 : Int) h h1 e c1 hT
      obtain ⟨q2, q7⟩ := K_th c1 (Kh_self h)
      refine ⟨1, h2, aI (t0 e : Int), aI b, by omega, ⟨I2, Z_ri r1 (Z_th c1 z), fun j => k1 j, k2⟩, ?_⟩
      generalize t0 e = te at *
      have ht0 : ¬ (te : Int) = 0 := by omega
      simp (disch := omega) only [x_1, x_7_4_I, x_7_4_A, x_7_4_U, x_61, x_4_4, x_6_0, x_54, x_12, x_66, x_53, x_17, x_6_1, x_11, x_79_6_11_d0, x_79_6_11_d1, x_79_6_11_d2, x_79_6_11_d3, x_79_6_11_d4, x_6_2, x_79_6_12_d0, x_79_6_12_d1, x_79_6_12_d2, x_79_6_12_d3, x_79_6_12_d4, x_62, x_85, x_79_2_11_d0, x_79_2_11_d1, x_79_2_11_d2, x_79_2_11_d3, x_79_2_11_d4, x_79_2_12_d0, x_79_2_12_d1, x_79_2_12_d2, x_79_2_12_d3, x_79_2_12_d4, x_6_3, x_80_2_d0, x_80_2_d1, x_80_2_d2, x_80_2_d3, x_80_2_d4, x_7_5_I, x_7_5_A, x_7_5_U, x_79_1_12_d0, x_79_1_12_d1, x_79_1_12_d2, x_79_1_12_d3, x_79_1_12_d4, x_7_6_I, x_7_6_A, x_7_6_U, x_4_5, x_69, x_42, x_4_6, x_23, x_32, x_68, x_60, x_79_1_11_d0, x_79_1_11_d1, x_79_1_11_d2, x_79_1_11_d3, x_79_1_11_d4, x_80_4_d0, x_80_4_d1, x_80_4_d2, x_80_4_d3, x_80_4_d4, x_79_3_12_d0, x_79_3_12_d1, x_79_3_12_d2, x_79_3_12_d3, x_79_3_12_d4, x_2, x_80_3_d0, x_80_3_d1, x_80_3_d2, x_80_3_d3, x_80_3_d4, x_80_5_d0, x_80_5_d1, x_80_5_d2, x_80_5_d3, x_80_5_d4, x_79_4_12_d0, x_79_4_12_d1, x_79_4_12_d2, x_79_4_12_d3, x_79_4_12_d4, x_10_4_I, x_10_4_A, x_10_4_U, cb_ri, cb_rl, cb_rv, cb_th, cb_ite, ps_s, ps_n, u_368_2913, u_368_2933, u_368_2934, u_368_2960, u_368_2961, u_368_2977, u_368_2994, o1, o2, o3, o4, o5, cx, wr, cb_r1, r1, tc, q2, ht0, Int.reduceEq, Int.reduceLT, Int.reduceLE, reduceIte, Int.reduceAdd, Int.reduceSub, Int.reduceMul, Int.reduceNeg, Int.reduceToNat, Bool.false_eq_true, eq_self, if_pos, if_neg]
  · rcases (ag_bounds (lv + 4) (lv + 5) H N (h 22 0 ((i : Int) + 1).toNat) true h I) with ⟨v, h1, c1, h2, r1, r3, r5, I2, k1, k2⟩ | ⟨e, h1, c1, hT, b, h2, r1, r3, I2, k1, k2⟩
    · have c1 : cl (lv + 84) _ _ _ = _ := c1
      have r1 : cl (lv + 85) 304 [aA 12 0, aI (h 22 0 ((i : Int) + 1).toNat), aI (1 : Int)] _ = _ := r1
      have tc := thrown_c (lv + 84) h2
      rw [r3] at tc
      have wr := wa_bounds (lv + 83) (h 22 0 ((i : Int) + 1).toNat) (1 : Int) h h1 v c1
      obtain ⟨q2, q7⟩ := Kh_o (t := 25) (k := 0) (j := 0) (v := v) (K_ri c1 (Kh_self h)) (by omega)
      refine ⟨0, h2, aI 0, aI v, by omega, ⟨I2, Z_ri r1 (Zh_o (Z_ri c1 z) (by omega)), fun j => k1 j, k2⟩, ?_⟩
      rw [addc_0]
      generalize hset h1 25 0 0 v = g1 at *
      simp (disch := omega) only [x_1, x_7_4_I, x_7_4_A, x_7_4_U, x_61, x_4_4, x_6_0, x_54, x_12, x_66, x_53, x_17, x_6_1, x_11, x_79_6_11_d0, x_79_6_11_d1, x_79_6_11_d2, x_79_6_11_d3, x_79_6_11_d4, x_6_2, x_79_6_12_d0, x_79_6_12_d1, x_79_6_12_d2, x_79_6_12_d3, x_79_6_12_d4, x_62, x_85, x_79_2_11_d0, x_79_2_11_d1, x_79_2_11_d2, x_79_2_11_d3, x_79_2_11_d4, x_79_2_12_d0, x_79_2_12_d1, x_79_2_12_d2, x_79_2_12_d3, x_79_2_12_d4, x_6_3, x_80_2_d0, x_80_2_d1, x_80_2_d2, x_80_2_d3, x_80_2_d4, x_7_5_I, x_7_5_A, x_7_5_U, x_79_1_12_d0, x_79_1_12_d1, x_79_1_12_d2, x_79_1_12_d3, x_79_1_12_d4, x_7_6_I, x_7_6_A, x_7_6_U, x_4_5, x_69, x_42, x_4_6, x_23, x_32, x_68, x_60, x_79_1_11_d0, x_79_1_11_d1, x_79_1_11_d2, x_79_1_11_d3, x_79_1_11_d4, x_80_4_d0, x_80_4_d1, x_80_4_d2, x_80_4_d3, x_80_4_d4, x_79_3_12_d0, x_79_3_12_d1, x_79_3_12_d2, x_79_3_12_d3, x_79_3_12_d4, x_2, x_80_3_d0, x_80_3_d1, x_80_3_d2, x_80_3_d3, x_80_3_d4, x_80_5_d0, x_80_5_d1, x_80_5_d2, x_80_5_d3, x_80_5_d4, x_79_4_12_d0, x_79_4_12_d1, x_79_4_12_d2, x_79_4_12_d3, x_79_4_12_d4, x_10_4_I, x_10_4_A, x_10_4_U, cb_ri, cb_rl, cb_rv, cb_th, cb_ite, ps_s, ps_n, u_368_2913, u_368_2933, u_368_2934, u_368_2960, u_368_2961, u_368_2977, u_368_2994, o1, o2, o3, o4, o5, cx, wr, r1, tc, r5, q2, jc_self, Int.reduceEq, Int.reduceLT, Int.reduceLE, reduceIte, Int.reduceAdd, Int.reduceSub, Int.reduceMul, Int.reduceNeg, Int.reduceToNat, Bool.false_eq_true, eq_self, if_pos, if_neg]
    · have c1 : cl (lv + 84) _ _ _ = _ := c1
      have r1 : cl (lv + 85) 304 [aA 12 0, aI (h 22 0 ((i : Int) + 1).toNat), aI (1 : Int)] _ = _ := r1
      have tc := thrown_c (lv + 84) h2
      rw [r3] at tc
      have wr := wb_bounds (lv + 83) (h 22 0 ((i : Int) + 1).toNat) (1 : Int) h h1 e c1 hT
      obtain ⟨q2, q7⟩ := K_th c1 (Kh_self h)
      refine ⟨1, h2, aI (t0 e : Int), aI b, by omega, ⟨I2, Z_ri r1 (Z_th c1 z), fun j => k1 j, k2⟩, ?_⟩
      generalize t0 e = te at *
      have ht0 : ¬ (te : Int) = 0 := by omega
      simp (disch := omega) only [x_1, x_7_4_I, x_7_4_A, x_7_4_U, x_61, x_4_4, x_6_0, x_54, x_12, x_66, x_53, x_17, x_6_1, x_11, x_79_6_11_d0, x_79_6_11_d1, x_79_6_11_d2, x_79_6_11_d3, x_79_6_11_d4, x_6_2, x_79_6_12_d0, x_79_6_12_d1, x_79_6_12_d2, x_79_6_12_d3, x_79_6_12_d4, x_62, x_85, x_79_2_11_d0, x_79_2_11_d1, x_79_2_11_d2, x_79_2_11_d3, x_79_2_11_d4, x_79_2_12_d0, x_79_2_12_d1, x_79_2_12_d2, x_79_2_12_d3, x_79_2_12_d4, x_6_3, x_80_2_d0, x_80_2_d1, x_80_2_d2, x_80_2_d3, x_80_2_d4, x_7_5_I, x_7_5_A, x_7_5_U, x_79_1_12_d0, x_79_1_12_d1, x_79_1_12_d2, x_79_1_12_d3, x_79_1_12_d4, x_7_6_I, x_7_6_A, x_7_6_U, x_4_5, x_69, x_42, x_4_6, x_23, x_32, x_68, x_60, x_79_1_11_d0, x_79_1_11_d1, x_79_1_11_d2, x_79_1_11_d3, x_79_1_11_d4, x_80_4_d0, x_80_4_d1, x_80_4_d2, x_80_4_d3, x_80_4_d4, x_79_3_12_d0, x_79_3_12_d1, x_79_3_12_d2, x_79_3_12_d3, x_79_3_12_d4, x_2, x_80_3_d0, x_80_3_d1, x_80_3_d2, x_80_3_d3, x_80_3_d4, x_80_5_d0, x_80_5_d1, x_80_5_d2, x_80_5_d3, x_80_5_d4, x_79_4_12_d0, x_79_4_12_d1, x_79_4_12_d2, x_79_4_12_d3, x_79_4_12_d4, x_10_4_I, x_10_4_A, x_10_4_U, cb_ri, cb_rl, cb_rv, cb_th, cb_ite, ps_s, ps_n, u_368_2913, u_368_2933, u_368_2934, u_368_2960, u_368_2961, u_368_2977, u_368_2994, o1, o2, o3, o4, o5, cx, wr, cb_r1, r1, tc, q2, ht0, Int.reduceEq, Int.reduceLT, Int.reduceLE, reduceIte, Int.reduceAdd, Int.reduceSub, Int.reduceMul, Int.reduceNeg, Int.reduceToNat, Bool.false_eq_true, eq_self, if_pos, if_neg]
theorem lw_led (lv i H N : Nat) (h : Hp) (I : INV h H N) (z : Zh h) (hb : h 27 0 0 ≤ 3072) (hi : (i : Int) + 6 ≤ h 27 0 0) : STEP lv 2997 i h := by
  intro v5 v6
  obtain ⟨o1, o2, o3, o4, o5⟩ := ob_i _ hb hi
  by_cases cx : (h 22 0 ((i : Int) + 2).toNat) = 0
  · rcases (ag_led (lv + 4) (lv + 5) H N (h 22 0 ((i : Int) + 1).toNat) false h I) with ⟨v, h1, c1, h2, r1, r3, r5, I2, k1, k2⟩ | ⟨e, h1, c1, hT, b, h2, r1, r3, I2, k1, k2⟩
    · have c1 : cl (lv + 84) _ _ _ = _ := c1
      have r1 : cl (lv + 85) 306 [aA 12 0, aI (h 22 0 ((i : Int) + 1).toNat), aI (0 : Int)] _ = _ := r1
      have tc := thrown_c (lv + 84) h2
      rw [r3] at tc
      have wr := wa_led (lv + 83) (h 22 0 ((i : Int) + 1).toNat) (0 : Int) h h1 v c1
      obtain ⟨q2, q7⟩ := Kh_o (t := 25) (k := 0) (j := 0) (v := v) (K_ri c1 (Kh_self h)) (by omega)
      refine ⟨0, h2, aI 0, aI v, by omega, ⟨I2, Z_ri r1 (Zh_o (Z_ri c1 z) (by omega)), fun j => k1 j, k2⟩, ?_⟩
      rw [addc_0]
      generalize hset h1 25 0 0 v = g1 at *
      simp (disch := omega) only [x_1, x_7_4_I, x_7_4_A, x_7_4_U, x_61, x_4_4, x_6_0, x_54, x_12, x_66, x_53, x_17, x_6_1, x_11, x_79_6_11_d0, x_79_6_11_d1, x_79_6_11_d2, x_79_6_11_d3, x_79_6_11_d4, x_6_2, x_79_6_12_d0, x_79_6_12_d1, x_79_6_12_d2, x_79_6_12_d3, x_79_6_12_d4, x_62, x_85, x_79_2_11_d0, x_79_2_11_d1, x_79_2_11_d2, x_79_2_11_d3, x_79_2_11_d4, x_79_2_12_d0, x_79_2_12_d1, x_79_2_12_d2, x_79_2_12_d3, x_79_2_12_d4, x_6_3, x_80_2_d0, x_80_2_d1, x_80_2_d2, x_80_2_d3, x_80_2_d4, x_7_5_I, x_7_5_A, x_7_5_U, x_79_1_12_d0, x_79_1_12_d1, x_79_1_12_d2, x_79_1_12_d3, x_79_1_12_d4, x_7_6_I, x_7_6_A, x_7_6_U, x_4_5, x_69, x_42, x_4_6, x_23, x_32, x_68, x_60, x_79_1_11_d0, x_79_1_11_d1, x_79_1_11_d2, x_79_1_11_d3, x_79_1_11_d4, x_80_4_d0, x_80_4_d1, x_80_4_d2, x_80_4_d3, x_80_4_d4, x_79_3_12_d0, x_79_3_12_d1, x_79_3_12_d2, x_79_3_12_d3, x_79_3_12_d4, x_2, x_80_3_d0, x_80_3_d1, x_80_3_d2, x_80_3_d3, x_80_3_d4, x_80_5_d0, x_80_5_d1, x_80_5_d2, x_80_5_d3, x_80_5_d4, x_79_4_12_d0, x_79_4_12_d1, x_79_4_12_d2, x_79_4_12_d3, x_79_4_12_d4, x_10_4_I, x_10_4_A, x_10_4_U, cb_ri, cb_rl, cb_rv, cb_th, cb_ite, ps_s, ps_n, u_368_2997, u_368_3017, u_368_3018, u_368_3044, u_368_3045, u_368_3061, u_368_3078, o1, o2, o3, o4, o5, cx, wr, r1, tc, r5, q2, jc_self, Int.reduceEq, Int.reduceLT, Int.reduceLE, reduceIte, Int.reduceAdd, Int.reduceSub, Int.reduceMul, Int.reduceNeg, Int.reduceToNat, Bool.false_eq_true, eq_self, if_pos, if_neg]
    · have c1 : cl (lv + 84) _ _ _ = _ := c1
      have r1 : cl (lv + 85) 306 [aA 12 0, aI (h 22 0 ((i : Int) + 1).toNat), aI (0 : Int)] _ = _ := r1
      have tc := thrown_c (lv + 84) h2
      rw [r3] at tc
      have wr := wb_led (lv + 83) (h 22 0 ((i : Int) + 1).toNat) (0 : Int) h h1 e c1 hT
      obtain ⟨q2, q7⟩ := K_th c1 (Kh_self h)
      refine ⟨1, h2, aI (t2 e : Int), aI b, by omega, ⟨I2, Z_ri r1 (Z_th c1 z), fun j => k1 j, k2⟩, ?_⟩
      generalize t2 e = te at *
      have ht0 : ¬ (te : Int) = 0 := by omega
      simp (disch := omega) only [x_1, x_7_4_I, x_7_4_A, x_7_4_U, x_61, x_4_4, x_6_0, x_54, x_12, x_66, x_53, x_17, x_6_1, x_11, x_79_6_11_d0, x_79_6_11_d1, x_79_6_11_d2, x_79_6_11_d3, x_79_6_11_d4, x_6_2, x_79_6_12_d0, x_79_6_12_d1, x_79_6_12_d2, x_79_6_12_d3, x_79_6_12_d4, x_62, x_85, x_79_2_11_d0, x_79_2_11_d1, x_79_2_11_d2, x_79_2_11_d3, x_79_2_11_d4, x_79_2_12_d0, x_79_2_12_d1, x_79_2_12_d2, x_79_2_12_d3, x_79_2_12_d4, x_6_3, x_80_2_d0, x_80_2_d1, x_80_2_d2, x_80_2_d3, x_80_2_d4, x_7_5_I, x_7_5_A, x_7_5_U, x_79_1_12_d0, x_79_1_12_d1, x_79_1_12_d2, x_79_1_12_d3, x_79_1_12_d4, x_7_6_I, x_7_6_A, x_7_6_U, x_4_5, x_69, x_42, x_4_6, x_23, x_32, x_68, x_60, x_79_1_11_d0, x_79_1_11_d1, x_79_1_11_d2, x_79_1_11_d3, x_79_1_11_d4, x_80_4_d0, x_80_4_d1, x_80_4_d2, x_80_4_d3, x_80_4_d4, x_79_3_12_d0, x_79_3_12_d1, x_79_3_12_d2, x_79_3_12_d3, x_79_3_12_d4, x_2, x_80_3_d0, x_80_3_d1, x_80_3_d2, x_80_3_d3, x_80_3_d4, x_80_5_d0, x_80_5_d1, x_80_5_d2, x_80_5_d3, x_80_5_d4, x_79_4_12_d0, x_79_4_12_d1, x_79_4_12_d2, x_79_4_12_d3, x_79_4_12_d4, x_10_4_I, x_10_4_A, x_10_4_U, cb_ri, cb_rl, cb_rv, cb_th, cb_ite, ps_s, ps_n, u_368_2997, u_368_3017, u_368_3018, u_368_3044, u_368_3045, u_368_3061, u_368_3078, o1, o2, o3, o4, o5, cx, wr, cb_r1, r1, tc, q2, ht0, Int.reduceEq, Int.reduceLT, Int.reduceLE, reduceIte, Int.reduceAdd, Int.reduceSub, Int.reduceMul, Int.reduceNeg, Int.reduceToNat, Bool.false_eq_true, eq_self, if_pos, if_neg]
  · rcases (ag_led (lv + 4) (lv + 5) H N (h 22 0 ((i : Int) + 1).toNat) true h I) with ⟨v, h1, c1, h2, r1, r3, r5, I2, k1, k2⟩ | ⟨e, h1, c1, hT, b, h2, r1, r3, I2, k1, k2⟩
    · have c1 : cl (lv + 84) _ _ _ = _ := c1
      have r1 : cl (lv + 85) 306 [aA 12 0, aI (h 22 0 ((i : Int) + 1).toNat), aI (1 : Int)] _ = _ := r1
      have tc := thrown_c (lv + 84) h2
      rw [r3] at tc
      have wr := wa_led (lv + 83) (h 22 0 ((i : Int) + 1).toNat) (1 : Int) h h1 v c1
      obtain ⟨q2, q7⟩ := Kh_o (t := 25) (k := 0) (j := 0) (v := v) (K_ri c1 (Kh_self h)) (by omega)
      refine ⟨0, h2, aI 0, aI v, by omega, ⟨I2, Z_ri r1 (Zh_o (Z_ri c1 z) (by omega)), fun j => k1 j, k2⟩, ?_⟩
      rw [addc_0]
      generalize hset h1 25 0 0 v = g1 at *
      simp (disch := omega) only [x_1, x_7_4_I, x_7_4_A, x_7_4_U, x_61, x_4_4, x_6_0, x_54, x_12, x_66, x_53, x_17, x_6_1, x_11, x_79_6_11_d0, x_79_6_11_d1, x_79_6_11_d2, x_79_6_11_d3, x_79_6_11_d4, x_6_2, x_79_6_12_d0, x_79_6_12_d1, x_79_6_12_d2, x_79_6_12_d3, x_79_6_12_d4, x_62, x_85, x_79_2_11_d0, x_79_2_11_d1, x_79_2_11_d2, x_79_2_11_d3, x_79_2_11_d4, x_79_2_12_d0, x_79_2_12_d1, x_79_2_12_d2, x_79_2_12_d3, x_79_2_12_d4, x_6_3, x_80_2_d0, x_80_2_d1, x_80_2_d2, x_80_2_d3, x_80_2_d4, x_7_5_I, x_7_5_A, x_7_5_U, x_79_1_12_d0, x_79_1_12_d1, x_79_1_12_d2, x_79_1_12_d3, x_79_1_12_d4, x_7_6_I, x_7_6_A, x_7_6_U, x_4_5, x_69, x_42, x_4_6, x_23, x_32, x_68, x_60, x_79_1_11_d0, x_79_1_11_d1, x_79_1_11_d2, x_79_1_11_d3, x_79_1_11_d4, x_80_4_d0, x_80_4_d1, x_80_4_d2, x_80_4_d3, x_80_4_d4, x_79_3_12_d0, x_79_3_12_d1, x_79_3_12_d2, x_79_3_12_d3, x_79_3_12_d4, x_2, x_80_3_d0, x_80_3_d1, x_80_3_d2, x_80_3_d3, x_80_3_d4, x_80_5_d0, x_80_5_d1, x_80_5_d2, x_80_5_d3, x_80_5_d4, x_79_4_12_d0, x_79_4_12_d1, x_79_4_12_d2, x_79_4_12_d3, x_79_4_12_d4, x_10_4_I, x_10_4_A, x_10_4_U, cb_ri, cb_rl, cb_rv, cb_th, cb_ite, ps_s, ps_n, u_368_2997, u_368_3017, u_368_3018, u_368_3044, u_368_3045, u_368_3061, u_368_3078, o1, o2, o3, o4, o5, cx, wr, r1, tc, r5, q2, jc_self, Int.reduceEq, Int.reduceLT, Int.reduceLE, reduceIte, Int.reduceAdd, Int.reduceSub, Int.reduceMul, Int.reduceNeg, Int.reduceToNat, Bool.false_eq_true, eq_self, if_pos, if_neg]
    · have c1 : cl (lv + 84) _ _ _ = _ := c1
      have r1 : cl (lv + 85) 306 [aA 12 0, aI (h 22 0 ((i : Int) + 1).toNat), aI (1 : Int)] _ = _ := r1
      have tc := thrown_c (lv + 84) h2
      rw [r3] at tc
      have wr := wb_led (lv + 83) (h 22 0 ((i : Int) + 1).toNat) (1 : Int) h h1 e c1 hT
      obtain ⟨q2, q7⟩ := K_th c1 (Kh_self h)
      refine ⟨1, h2, aI (t2 e : Int), aI b, by omega, ⟨I2, Z_ri r1 (Z_th c1 z), fun j => k1 j, k2⟩, ?_⟩
      generalize t2 e = te at *
      have ht0 : ¬ (te : Int) = 0 := by omega
      simp (disch := omega) only [x_1, x_7_4_I, x_7_4_A, x_7_4_U, x_61, x_4_4, x_6_0, x_54, x_12, x_66, x_53, x_17, x_6_1, x_11, x_79_6_11_d0, x_79_6_11_d1, x_79_6_11_d2, x_79_6_11_d3, x_79_6_11_d4, x_6_2, x_79_6_12_d0, x_79_6_12_d1, x_79_6_12_d2, x_79_6_12_d3, x_79_6_12_d4, x_62, x_85, x_79_2_11_d0, x_79_2_11_d1, x_79_2_11_d2, x_79_2_11_d3, x_79_2_11_d4, x_79_2_12_d0, x_79_2_12_d1, x_79_2_12_d2, x_79_2_12_d3, x_79_2_12_d4, x_6_3, x_80_2_d0, x_80_2_d1, x_80_2_d2, x_80_2_d3, x_80_2_d4, x_7_5_I, x_7_5_A, x_7_5_U, x_79_1_12_d0, x_79_1_12_d1, x_79_1_12_d2, x_79_1_12_d3, x_79_1_12_d4, x_7_6_I, x_7_6_A, x_7_6_U, x_4_5, x_69, x_42, x_4_6, x_23, x_32, x_68, x_60, x_79_1_11_d0, x_79_1_11_d1, x_79_1_11_d2, x_79_1_11_d3, x_79_1_11_d4, x_80_4_d0, x_80_4_d1, x_80_4_d2, x_80_4_d3, x_80_4_d4, x_79_3_12_d0, x_79_3_12_d1, x_79_3_12_d2, x_79_3_12_d3, x_79_3_12_d4, x_2, x_80_3_d0, x_80_3_d1, x_80_3_d2, x_80_3_d3, x_80_3_d4, x_80_5_d0, x_80_5_d1, x_80_5_d2, x_80_5_d3, x_80_5_d4, x_79_4_12_d0, x_79_4_12_d1, x_79_4_12_d2, x_79_4_12_d3, x_79_4_12_d4, x_10_4_I, x_10_4_A, x_10_4_U, cb_ri, cb_rl, cb_rv, cb_th, cb_ite, ps_s, ps_n, u_368_2997, u_368_3017, u_368_3018, u_368_3044, u_368_3045, u_368_3061, u_368_3078, o1, o2, o3, o4, o5, cx, wr, cb_r1, r1, tc, q2, ht0, Int.reduceEq, Int.reduceLT, Int.reduceLE, reduceIte, Int.reduceAdd, Int.reduceSub, Int.reduceMul, Int.reduceNeg, Int.reduceToNat, Bool.false_eq_true, eq_self, if_pos, if_neg]
theorem lw_log (lv i H N : Nat) (h : Hp) (I : INV h H N) (z : Zh h) (hb : h 27 0 0 ≤ 3072) (hi : (i : Int) + 6 ≤ h 27 0 0) : STEP lv 3081 i h := by
  intro v5 v6
  obtain ⟨o1, o2, o3, o4, o5⟩ := ob_i _ hb hi
  rcases (ag_log (lv + 4) (lv + 5) H N (h 22 0 ((i : Int) + 1).toNat) (h 22 0 ((i : Int) + 2).toNat) h I) with ⟨v, h1, c1, h2, r1, r3, r5, I2, k1, k2⟩ | ⟨e, h1, c1, hT, b, h2, r1, r3, I2, k1, k2⟩
  · have c1 : cl (lv + 84) _ _ _ = _ := c1
    have r1 : cl (lv + 85) 307 [aA 12 0, aI (h 22 0 ((i : Int) + 1).toNat), aI (h 22 0 ((i : Int) + 2).toNat)] _ = _ := r1
    have tc := thrown_c (lv + 84) h2
    rw [r3] at tc
    have wr := wa_log (lv + 83) (h 22 0 ((i : Int) + 1).toNat) (h 22 0 ((i : Int) + 2).toNat) h h1 v c1
    obtain ⟨q2, q7⟩ := Kh_o (t := 25) (k := 0) (j := 0) (v := v) (K_ri c1 (Kh_self h)) (by omega)
    refine ⟨0, h2, aI 0, aI v, by omega, ⟨I2, Z_ri r1 (Zh_o (Z_ri c1 z) (by omega)), fun j => k1 j, k2⟩, ?_⟩
    rw [addc_0]
    generalize hset h1 25 0 0 v = g1 at *
    simp (disch := omega) only [x_1, x_7_4_I, x_7_4_A, x_7_4_U, x_61, x_4_4, x_6_0, x_54, x_12, x_66, x_53, x_17, x_6_1, x_11, x_79_6_11_d0, x_79_6_11_d1, x_79_6_11_d2, x_79_6_11_d3, x_79_6_11_d4, x_6_2, x_79_6_12_d0, x_79_6_12_d1, x_79_6_12_d2, x_79_6_12_d3, x_79_6_12_d4, x_62, x_85, x_79_2_11_d0, x_79_2_11_d1, x_79_2_11_d2, x_79_2_11_d3, x_79_2_11_d4, x_79_2_12_d0, x_79_2_12_d1, x_79_2_12_d2, x_79_2_12_d3, x_79_2_12_d4, x_6_3, x_80_2_d0, x_80_2_d1, x_80_2_d2, x_80_2_d3, x_80_2_d4, x_7_5_I, x_7_5_A, x_7_5_U, x_79_1_12_d0, x_79_1_12_d1, x_79_1_12_d2, x_79_1_12_d3, x_79_1_12_d4, x_7_6_I, x_7_6_A, x_7_6_U, x_4_5, x_69, x_42, x_4_6, x_23, x_32, x_68, x_60, x_79_1_11_d0, x_79_1_11_d1, x_79_1_11_d2, x_79_1_11_d3, x_79_1_11_d4, x_80_4_d0, x_80_4_d1, x_80_4_d2, x_80_4_d3, x_80_4_d4, x_79_3_12_d0, x_79_3_12_d1, x_79_3_12_d2, x_79_3_12_d3, x_79_3_12_d4, x_2, x_80_3_d0, x_80_3_d1, x_80_3_d2, x_80_3_d3, x_80_3_d4, x_80_5_d0, x_80_5_d1, x_80_5_d2, x_80_5_d3, x_80_5_d4, x_79_4_12_d0, x_79_4_12_d1, x_79_4_12_d2, x_79_4_12_d3, x_79_4_12_d4, x_10_4_I, x_10_4_A, x_10_4_U, cb_ri, cb_rl, cb_rv, cb_th, cb_ite, ps_s, ps_n, u_368_3081, u_368_3129, u_368_3146, o1, o2, o3, o4, o5, wr, r1, tc, r5, q2, jc_self, Int.reduceEq, Int.reduceLT, Int.reduceLE, reduceIte, Int.reduceAdd, Int.reduceSub, Int.reduceMul, Int.reduceNeg, Int.reduceToNat, Bool.false_eq_true, eq_self, if_pos, if_neg]
  · have c1 : cl (lv + 84) _ _ _ = _ := c1
    have r1 : cl (lv + 85) 307 [aA 12 0, aI (h 22 0 ((i : Int) + 1).toNat), aI (h 22 0 ((i : Int) + 2).toNat)] _ = _ := r1
    have tc := thrown_c (lv + 84) h2
    rw [r3] at tc
    have wr := wb_log (lv + 83) (h 22 0 ((i : Int) + 1).toNat) (h 22 0 ((i : Int) + 2).toNat) h h1 e c1 hT
    obtain ⟨q2, q7⟩ := K_th c1 (Kh_self h)
    refine ⟨1, h2, aI (t4 e : Int), aI b, by omega, ⟨I2, Z_ri r1 (Z_th c1 z), fun j => k1 j, k2⟩, ?_⟩
    generalize t4 e = te at *
    have ht0 : ¬ (te : Int) = 0 := by omega
    simp (disch := omega) only [x_1, x_7_4_I, x_7_4_A, x_7_4_U, x_61, x_4_4, x_6_0, x_54, x_12, x_66, x_53, x_17, x_6_1, x_11, x_79_6_11_d0, x_79_6_11_d1, x_79_6_11_d2, x_79_6_11_d3, x_79_6_11_d4, x_6_2, x_79_6_12_d0, x_79_6_12_d1, x_79_6_12_d2, x_79_6_12_d3, x_79_6_12_d4, x_62, x_85, x_79_2_11_d0, x_79_2_11_d1, x_79_2_11_d2, x_79_2_11_d3, x_79_2_11_d4, x_79_2_12_d0, x_79_2_12_d1, x_79_2_12_d2, x_79_2_12_d3, x_79_2_12_d4, x_6_3, x_80_2_d0, x_80_2_d1, x_80_2_d2, x_80_2_d3, x_80_2_d4, x_7_5_I, x_7_5_A, x_7_5_U, x_79_1_12_d0, x_79_1_12_d1, x_79_1_12_d2, x_79_1_12_d3, x_79_1_12_d4, x_7_6_I, x_7_6_A, x_7_6_U, x_4_5, x_69, x_42, x_4_6, x_23, x_32, x_68, x_60, x_79_1_11_d0, x_79_1_11_d1, x_79_1_11_d2, x_79_1_11_d3, x_79_1_11_d4, x_80_4_d0, x_80_4_d1, x_80_4_d2, x_80_4_d3, x_80_4_d4, x_79_3_12_d0, x_79_3_12_d1, x_79_3_12_d2, x_79_3_12_d3, x_79_3_12_d4, x_2, x_80_3_d0, x_80_3_d1, x_80_3_d2, x_80_3_d3, x_80_3_d4, x_80_5_d0, x_80_5_d1, x_80_5_d2, x_80_5_d3, x_80_5_d4, x_79_4_12_d0, x_79_4_12_d1, x_79_4_12_d2, x_79_4_12_d3, x_79_4_12_d4, x_10_4_I, x_10_4_A, x_10_4_U, cb_ri, cb_rl, cb_rv, cb_th, cb_ite, ps_s, ps_n, u_368_3081, u_368_3129, u_368_3146, o1, o2, o3, o4, o5, wr, cb_r1, r1, tc, q2, ht0, Int.reduceEq, Int.reduceLT, Int.reduceLE, reduceIte, Int.reduceAdd, Int.reduceSub, Int.reduceMul, Int.reduceNeg, Int.reduceToNat, Bool.false_eq_true, eq_self, if_pos, if_neg]
theorem lw_seed (lv i H N : Nat) (h : Hp) (I : INV h H N) (z : Zh h) (hb : h 27 0 0 ≤ 3072) (hi : (i : Int) + 6 ≤ h 27 0 0) : STEP lv 3149 i h := by
  intro v5 v6
  obtain ⟨o1, o2, o3, o4, o5⟩ := ob_i _ hb hi
  obtain ⟨v, h1, h2, c1, r1, I2, k1, k2⟩ := ag_seed (lv + 5) (lv + 5) H N (h 22 0 ((i : Int) + 1).toNat) h I
  have c1 : cl (lv + 85) _ _ _ = _ := c1
  have r1 : cl (lv + 85) _ _ _ = _ := r1
  obtain ⟨q2, q7⟩ := K_ri c1 (Kh_self h)
  refine ⟨0, h2, v5, v6, by omega, ⟨I2, Z_ri r1 (Z_ri c1 z), fun j => k1 j, k2⟩, ?_⟩
  rw [addc_0]
  simp (disch := omega) only [x_1, x_7_4_I, x_7_4_A, x_7_4_U, x_61, x_4_4, x_6_0, x_54, x_12, x_66, x_53, x_17, x_6_1, x_11, x_79_6_11_d0, x_79_6_11_d1, x_79_6_11_d2, x_79_6_11_d3, x_79_6_11_d4, x_6_2, x_79_6_12_d0, x_79_6_12_d1, x_79_6_12_d2, x_79_6_12_d3, x_79_6_12_d4, x_62, x_85, x_79_2_11_d0, x_79_2_11_d1, x_79_2_11_d2, x_79_2_11_d3, x_79_2_11_d4, x_79_2_12_d0, x_79_2_12_d1, x_79_2_12_d2, x_79_2_12_d3, x_79_2_12_d4, x_6_3, x_80_2_d0, x_80_2_d1, x_80_2_d2, x_80_2_d3, x_80_2_d4, x_7_5_I, x_7_5_A, x_7_5_U, x_79_1_12_d0, x_79_1_12_d1, x_79_1_12_d2, x_79_1_12_d3, x_79_1_12_d4, x_7_6_I, x_7_6_A, x_7_6_U, x_4_5, x_69, x_42, x_4_6, x_23, x_32, x_68, x_60, x_79_1_11_d0, x_79_1_11_d1, x_79_1_11_d2, x_79_1_11_d3, x_79_1_11_d4, x_80_4_d0, x_80_4_d1, x_80_4_d2, x_80_4_d3, x_80_4_d4, x_79_3_12_d0, x_79_3_12_d1, x_79_3_12_d2, x_79_3_12_d3, x_79_3_12_d4, x_2, x_80_3_d0, x_80_3_d1, x_80_3_d2, x_80_3_d3, x_80_3_d4, x_80_5_d0, x_80_5_d1, x_80_5_d2, x_80_5_d3, x_80_5_d4, x_79_4_12_d0, x_79_4_12_d1, x_79_4_12_d2, x_79_4_12_d3, x_79_4_12_d4, x_10_4_I, x_10_4_A, x_10_4_U, cb_ri, cb_rl, cb_rv, cb_th, cb_ite, ps_s, ps_n, u_368_3149, o1, o2, o3, o4, o5, c1, r1, q2, Int.reduceEq, Int.reduceLT, Int.reduceLE, reduceIte, Int.reduceAdd, Int.reduceSub, Int.reduceMul, Int.reduceNeg, Int.reduceToNat, Bool.false_eq_true, eq_self, if_pos, if_neg]
theorem lw_undo (lv i H N : Nat) (h : Hp) (I : INV h H N) (z : Zh h) (hb : h 27 0 0 ≤ 3072) (hi : (i : Int) + 6 ≤ h 27 0 0) : STEP lv 3174 i h := by
  intro v5 v6
  obtain ⟨o1, o2, o3, o4, o5⟩ := ob_i _ hb hi
  obtain ⟨v, h1, h2, c1, r1, I2, k1, k2⟩ := ag_undo (lv + 5) (lv + 5) H N  h I
  have c1 : cl (lv + 85) _ _ _ = _ := c1
  have r1 : cl (lv + 85) _ _ _ = _ := r1
  obtain ⟨q2, q7⟩ := K_ri c1 (Kh_self h)
  refine ⟨0, h2, v5, v6, by omega, ⟨I2, Z_ri r1 (Z_ri c1 z), fun j => k1 j, k2⟩, ?_⟩
  rw [addc_0]
  simp (disch := omega) only [x_1, x_7_4_I, x_7_4_A, x_7_4_U, x_61, x_4_4, x_6_0, x_54, x_12, x_66, x_53, x_17, x_6_1, x_11, x_79_6_11_d0, x_79_6_11_d1, x_79_6_11_d2, x_79_6_11_d3, x_79_6_11_d4, x_6_2, x_79_6_12_d0, x_79_6_12_d1, x_79_6_12_d2, x_79_6_12_d3, x_79_6_12_d4, x_62, x_85, x_79_2_11_d0, x_79_2_11_d1, x_79_2_11_d2, x_79_2_11_d3, x_79_2_11_d4, x_79_2_12_d0, x_79_2_12_d1, x_79_2_12_d2, x_79_2_12_d3, x_79_2_12_d4, x_6_3, x_80_2_d0, x_80_2_d1, x_80_2_d2, x_80_2_d3, x_80_2_d4, x_7_5_I, x_7_5_A, x_7_5_U, x_79_1_12_d0, x_79_1_12_d1, x_79_1_12_d2, x_79_1_12_d3, x_79_1_12_d4, x_7_6_I, x_7_6_A, x_7_6_U, x_4_5, x_69, x_42, x_4_6, x_23, x_32, x_68, x_60, x_79_1_11_d0, x_79_1_11_d1, x_79_1_11_d2, x_79_1_11_d3, x_79_1_11_d4, x_80_4_d0, x_80_4_d1, x_80_4_d2, x_80_4_d3, x_80_4_d4, x_79_3_12_d0, x_79_3_12_d1, x_79_3_12_d2, x_79_3_12_d3, x_79_3_12_d4, x_2, x_80_3_d0, x_80_3_d1, x_80_3_d2, x_80_3_d3, x_80_3_d4, x_80_5_d0, x_80_5_d1, x_80_5_d2, x_80_5_d3, x_80_5_d4, x_79_4_12_d0, x_79_4_12_d1, x_79_4_12_d2, x_79_4_12_d3, x_79_4_12_d4, x_10_4_I, x_10_4_A, x_10_4_U, cb_ri, cb_rl, cb_rv, cb_th, cb_ite, ps_s, ps_n, u_368_3174, o1, o2, o3, o4, o5, c1, r1, q2, Int.reduceEq, Int.reduceLT, Int.reduceLE, reduceIte, Int.reduceAdd, Int.reduceSub, Int.reduceMul, Int.reduceNeg, Int.reduceToNat, Bool.false_eq_true, eq_self, if_pos, if_neg]
theorem lw_image (lv i H N : Nat) (h : Hp) (I : INV h H N) (z : Zh h) (hb : h 27 0 0 ≤ 3072) (hi : (i : Int) + 6 ≤ h 27 0 0) : STEP lv 3187 i h := by
  intro v5 v6
  obtain ⟨o1, o2, o3, o4, o5⟩ := ob_i _ hb hi
  obtain ⟨h1, h2, c1, r1, I2, k1, k2⟩ := ag_image (lv + 5) (lv + 5) H N  h I
  have c1 : cl (lv + 85) _ _ _ = _ := c1
  have r1 : cl (lv + 85) _ _ _ = _ := r1
  refine ⟨0, h2, v5, v6, by omega, ⟨I2, Z_rv r1 (Z_rv c1 z), fun j => k1 j, k2⟩, ?_⟩
  rw [addc_0]
  simp (disch := omega) only [x_1, x_7_4_I, x_7_4_A, x_7_4_U, x_61, x_4_4, x_6_0, x_54, x_12, x_66, x_53, x_17, x_6_1, x_11, x_79_6_11_d0, x_79_6_11_d1, x_79_6_11_d2, x_79_6_11_d3, x_79_6_11_d4, x_6_2, x_79_6_12_d0, x_79_6_12_d1, x_79_6_12_d2, x_79_6_12_d3, x_79_6_12_d4, x_62, x_85, x_79_2_11_d0, x_79_2_11_d1, x_79_2_11_d2, x_79_2_11_d3, x_79_2_11_d4, x_79_2_12_d0, x_79_2_12_d1, x_79_2_12_d2, x_79_2_12_d3, x_79_2_12_d4, x_6_3, x_80_2_d0, x_80_2_d1, x_80_2_d2, x_80_2_d3, x_80_2_d4, x_7_5_I, x_7_5_A, x_7_5_U, x_79_1_12_d0, x_79_1_12_d1, x_79_1_12_d2, x_79_1_12_d3, x_79_1_12_d4, x_7_6_I, x_7_6_A, x_7_6_U, x_4_5, x_69, x_42, x_4_6, x_23, x_32, x_68, x_60, x_79_1_11_d0, x_79_1_11_d1, x_79_1_11_d2, x_79_1_11_d3, x_79_1_11_d4, x_80_4_d0, x_80_4_d1, x_80_4_d2, x_80_4_d3, x_80_4_d4, x_79_3_12_d0, x_79_3_12_d1, x_79_3_12_d2, x_79_3_12_d3, x_79_3_12_d4, x_2, x_80_3_d0, x_80_3_d1, x_80_3_d2, x_80_3_d3, x_80_3_d4, x_80_5_d0, x_80_5_d1, x_80_5_d2, x_80_5_d3, x_80_5_d4, x_79_4_12_d0, x_79_4_12_d1, x_79_4_12_d2, x_79_4_12_d3, x_79_4_12_d4, x_10_4_I, x_10_4_A, x_10_4_U, cb_ri, cb_rl, cb_rv, cb_th, cb_ite, ps_s, ps_n, u_368_3187, o1, o2, o3, o4, o5, c1, r1, Int.reduceEq, Int.reduceLT, Int.reduceLE, reduceIte, Int.reduceAdd, Int.reduceSub, Int.reduceMul, Int.reduceNeg, Int.reduceToNat, Bool.false_eq_true, eq_self, if_pos, if_neg]
theorem lw_back (lv i H N : Nat) (h : Hp) (I : INV h H N) (z : Zh h) (hb : h 27 0 0 ≤ 3072) (hi : (i : Int) + 6 ≤ h 27 0 0) : STEP lv 3198 i h := by
  intro v5 v6
  obtain ⟨o1, o2, o3, o4, o5⟩ := ob_i _ hb hi
  obtain ⟨v, h1, h2, c1, r1, I2, k1, k2⟩ := ag_back (lv + 5) (lv + 5) H N  h I
  have c1 : cl (lv + 85) _ _ _ = _ := c1
  have r1 : cl (lv + 85) _ _ _ = _ := r1
  obtain ⟨q2, q7⟩ := K_ri c1 (Kh_self h)
  refine ⟨0, h2, v5, v6, by omega, ⟨I2, Z_ri r1 (Z_ri c1 z), fun j => k1 j, k2⟩, ?_⟩
  rw [addc_0]
  simp (disch := omega) only [x_1, x_7_4_I, x_7_4_A, x_7_4_U, x_61, x_4_4, x_6_0, x_54, x_12, x_66, x_53, x_17, x_6_1, x_11, x_79_6_11_d0, x_79_6_11_d1, x_79_6_11_d2, x_79_6_11_d3, x_79_6_11_d4, x_6_2, x_79_6_12_d0, x_79_6_12_d1, x_79_6_12_d2, x_79_6_12_d3, x_79_6_12_d4, x_62, x_85, x_79_2_11_d0, x_79_2_11_d1, x_79_2_11_d2, x_79_2_11_d3, x_79_2_11_d4, x_79_2_12_d0, x_79_2_12_d1, x_79_2_12_d2, x_79_2_12_d3, x_79_2_12_d4, x_6_3, x_80_2_d0, x_80_2_d1, x_80_2_d2, x_80_2_d3, x_80_2_d4, x_7_5_I, x_7_5_A, x_7_5_U, x_79_1_12_d0, x_79_1_12_d1, x_79_1_12_d2, x_79_1_12_d3, x_79_1_12_d4, x_7_6_I, x_7_6_A, x_7_6_U, x_4_5, x_69, x_42, x_4_6, x_23, x_32, x_68, x_60, x_79_1_11_d0, x_79_1_11_d1, x_79_1_11_d2, x_79_1_11_d3, x_79_1_11_d4, x_80_4_d0, x_80_4_d1, x_80_4_d2, x_80_4_d3, x_80_4_d4, x_79_3_12_d0, x_79_3_12_d1, x_79_3_12_d2, x_79_3_12_d3, x_79_3_12_d4, x_2, x_80_3_d0, x_80_3_d1, x_80_3_d2, x_80_3_d3, x_80_3_d4, x_80_5_d0, x_80_5_d1, x_80_5_d2, x_80_5_d3, x_80_5_d4, x_79_4_12_d0, x_79_4_12_d1, x_79_4_12_d2, x_79_4_12_d3, x_79_4_12_d4, x_10_4_I, x_10_4_A, x_10_4_U, cb_ri, cb_rl, cb_rv, cb_th, cb_ite, ps_s, ps_n, u_368_3198, o1, o2, o3, o4, o5, c1, r1, q2, Int.reduceEq, Int.reduceLT, Int.reduceLE, reduceIte, Int.reduceAdd, Int.reduceSub, Int.reduceMul, Int.reduceNeg, Int.reduceToNat, Bool.false_eq_true, eq_self, if_pos, if_neg]
theorem lw_count (lv i H N : Nat) (h : Hp) (I : INV h H N) (z : Zh h) (hb : h 27 0 0 ≤ 3072) (hi : (i : Int) + 6 ≤ h 27 0 0) : STEP lv 3211 i h := by
  intro v5 v6
  obtain ⟨o1, o2, o3, o4, o5⟩ := ob_i _ hb hi
  obtain ⟨v, h1, h2, c1, r1, I2, k1, k2⟩ := ag_count (lv + 5) (lv + 5) H N (h 22 0 ((i : Int) + 1).toNat) h I
  have c1 : cl (lv + 85) _ _ _ = _ := c1
  have r1 : cl (lv + 85) _ _ _ = _ := r1
  obtain ⟨q2, q7⟩ := K_ri c1 (Kh_self h)
  refine ⟨0, h2, v5, v6, by omega, ⟨I2, Z_ri r1 (Z_ri c1 z), fun j => k1 j, k2⟩, ?_⟩
  rw [addc_0]
  simp (disch := omega) only [x_1, x_7_4_I, x_7_4_A, x_7_4_U, x_61, x_4_4, x_6_0, x_54, x_12, x_66, x_53, x_17, x_6_1, x_11, x_79_6_11_d0, x_79_6_11_d1, x_79_6_11_d2, x_79_6_11_d3, x_79_6_11_d4, x_6_2, x_79_6_12_d0, x_79_6_12_d1, x_79_6_12_d2, x_79_6_12_d3, x_79_6_12_d4, x_62, x_85, x_79_2_11_d0, x_79_2_11_d1, x_79_2_11_d2, x_79_2_11_d3, x_79_2_11_d4, x_79_2_12_d0, x_79_2_12_d1, x_79_2_12_d2, x_79_2_12_d3, x_79_2_12_d4, x_6_3, x_80_2_d0, x_80_2_d1, x_80_2_d2, x_80_2_d3, x_80_2_d4, x_7_5_I, x_7_5_A, x_7_5_U, x_79_1_12_d0, x_79_1_12_d1, x_79_1_12_d2, x_79_1_12_d3, x_79_1_12_d4, x_7_6_I, x_7_6_A, x_7_6_U, x_4_5, x_69, x_42, x_4_6, x_23, x_32, x_68, x_60, x_79_1_11_d0, x_79_1_11_d1, x_79_1_11_d2, x_79_1_11_d3, x_79_1_11_d4, x_80_4_d0, x_80_4_d1, x_80_4_d2, x_80_4_d3, x_80_4_d4, x_79_3_12_d0, x_79_3_12_d1, x_79_3_12_d2, x_79_3_12_d3, x_79_3_12_d4, x_2, x_80_3_d0, x_80_3_d1, x_80_3_d2, x_80_3_d3, x_80_3_d4, x_80_5_d0, x_80_5_d1, x_80_5_d2, x_80_5_d3, x_80_5_d4, x_79_4_12_d0, x_79_4_12_d1, x_79_4_12_d2, x_79_4_12_d3, x_79_4_12_d4, x_10_4_I, x_10_4_A, x_10_4_U, cb_ri, cb_rl, cb_rv, cb_th, cb_ite, ps_s, ps_n, u_368_3211, o1, o2, o3, o4, o5, c1, r1, q2, Int.reduceEq, Int.reduceLT, Int.reduceLE, reduceIte, Int.reduceAdd, Int.reduceSub, Int.reduceMul, Int.reduceNeg, Int.reduceToNat, Bool.false_eq_true, eq_self, if_pos, if_neg]
