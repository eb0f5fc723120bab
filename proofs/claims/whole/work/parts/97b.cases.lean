/-! THE LAW, CASE BY CASE. -/
def OKh (h h' : Hp) : Prop := (∃ H N, INV h' H N) ∧ Zh h' ∧ Kh (h 22 0) (h 27 0 0) h'
def STEP (lv pc i : Nat) (h : Hp) : Prop := ∀ v5 v6 : AV, ∃ (c : Nat) (h' : Hp) (w5 w6 : AV), c ≤ 1 ∧ OKh h h' ∧ run (lv + 85) 368 pc [aA 22 0, aA 11 0, aA 12 0, aA 25 0, aI (i : Int), v5, v6] [] h = addc c (run (lv + 85) 368 3236 [aA 22 0, aA 11 0, aA 12 0, aA 25 0, aI (i : Int), w5, w6] [] h')
theorem Kh_self (h : Hp) : Kh (h 22 0) (h 27 0 0) h := ⟨fun _ => rfl, rfl⟩
theorem jc_self (x : Int) : jcmp x x = 0 := by unfold jcmp; simp
theorem thrown_c (lv : Nat) (h : Hp) : cl (lv + 1) 167 [aA 12 0] h = ri (h 186 0 0) h := by
  rw [in_167]
  simp (disch := omega) only [x_6_0, x_33, x_82, u_167_0]
theorem ob_i {i : Nat} (L : Int) (hb : L ≤ 3072) (hi : (i : Int) + 6 ≤ L) : w32 ((i : Int) + 1) = (i : Int) + 1 ∧ w32 ((i : Int) + 2) = (i : Int) + 2 ∧ w32 ((i : Int) + 3) = (i : Int) + 3 ∧ w32 ((i : Int) + 4) = (i : Int) + 4 ∧ w32 ((i : Int) + 5) = (i : Int) + 5 := by
  refine ⟨?_, ?_, ?_, ?_, ?_⟩ <;> exact w32_id (by omega) (by omega)
theorem lw_feed (lv i H N : Nat) (h : Hp) (I : INV h H N) (z : Zh h) (hb : h 27 0 0 ≤ 3072) (hi : (i : Int) + 6 ≤ h 27 0 0) : STEP lv 312 i h := by
  intro v5 v6
  obtain ⟨o1, o2, o3, o4, o5⟩ := ob_i _ hb hi
  obtain ⟨v, h1, h2, c1, r1, I2, k1, k2⟩ := ag_feed (lv + 5) (lv + 5) H N (h 22 0 ((i : Int) + 1).toNat) (h 22 0 ((i : Int) + 2).toNat) (h 22 0 ((i : Int) + 3).toNat) (h 22 0 ((i : Int) + 4).toNat) (h 22 0 ((i : Int) + 5).toNat) h I
  have c1 : cl (lv + 85) _ _ _ = _ := c1
  have r1 : cl (lv + 85) _ _ _ = _ := r1
  obtain ⟨q2, q7⟩ := K_ri c1 (Kh_self h)
  refine ⟨0, h2, v5, v6, by omega, ⟨I2, Z_ri r1 (Z_ri c1 z), fun j => k1 j, k2⟩, ?_⟩
  rw [addc_0]
  simp (disch := omega) only [x_1, x_7_4_I, x_7_4_A, x_7_4_U, x_61, x_4_4, x_6_0, x_54, x_12, x_66, x_53, x_17, x_6_1, x_11, x_79_6_11_d0, x_79_6_11_d1, x_79_6_11_d2, x_79_6_11_d3, x_79_6_11_d4, x_6_2, x_79_6_12_d0, x_79_6_12_d1, x_79_6_12_d2, x_79_6_12_d3, x_79_6_12_d4, x_62, x_85, x_79_2_11_d0, x_79_2_11_d1, x_79_2_11_d2, x_79_2_11_d3, x_79_2_11_d4, x_79_2_12_d0, x_79_2_12_d1, x_79_2_12_d2, x_79_2_12_d3, x_79_2_12_d4, x_6_3, x_80_2_d0, x_80_2_d1, x_80_2_d2, x_80_2_d3, x_80_2_d4, x_7_5_I, x_7_5_A, x_7_5_U, x_79_1_12_d0, x_79_1_12_d1, x_79_1_12_d2, x_79_1_12_d3, x_79_1_12_d4, x_7_6_I, x_7_6_A, x_7_6_U, x_4_5, x_69, x_42, x_4_6, x_23, x_32, x_68, x_60, x_79_1_11_d0, x_79_1_11_d1, x_79_1_11_d2, x_79_1_11_d3, x_79_1_11_d4, x_80_4_d0, x_80_4_d1, x_80_4_d2, x_80_4_d3, x_80_4_d4, x_79_3_12_d0, x_79_3_12_d1, x_79_3_12_d2, x_79_3_12_d3, x_79_3_12_d4, x_2, x_80_3_d0, x_80_3_d1, x_80_3_d2, x_80_3_d3, x_80_3_d4, x_80_5_d0, x_80_5_d1, x_80_5_d2, x_80_5_d3, x_80_5_d4, x_79_4_12_d0, x_79_4_12_d1, x_79_4_12_d2, x_79_4_12_d3, x_79_4_12_d4, x_10_4_I, x_10_4_A, x_10_4_U, cb_ri, cb_rl, cb_rv, cb_th, cb_ite, ps_s, ps_n, u_368_312, o1, o2, o3, o4, o5, c1, r1, q2, Int.reduceEq, Int.reduceLT, Int.reduceLE, reduceIte, Int.reduceAdd, Int.reduceSub, Int.reduceMul, Int.reduceNeg, Int.reduceToNat, Bool.false_eq_true, eq_self, if_pos, if_neg]
theorem lw_end (lv i H N : Nat) (h : Hp) (I : INV h H N) (z : Zh h) (hb : h 27 0 0 ≤ 3072) (hi : (i : Int) + 6 ≤ h 27 0 0) : STEP lv 385 i h := by
  intro v5 v6
  obtain ⟨o1, o2, o3, o4, o5⟩ := ob_i _ hb hi
  obtain ⟨v, h1, h2, c1, r1, I2, k1, k2⟩ := ag_end (lv + 5) (lv + 5) H N (h 22 0 ((i : Int) + 1).toNat) h I
  have c1 : cl (lv + 85) _ _ _ = _ := c1
  have r1 : cl (lv + 85) _ _ _ = _ := r1
  obtain ⟨q2, q7⟩ := K_ri c1 (Kh_self h)
  refine ⟨0, h2, v5, v6, by omega, ⟨I2, Z_ri r1 (Z_ri c1 z), fun j => k1 j, k2⟩, ?_⟩
  rw [addc_0]
  simp (disch := omega) only [x_1, x_7_4_I, x_7_4_A, x_7_4_U, x_61, x_4_4, x_6_0, x_54, x_12, x_66, x_53, x_17, x_6_1, x_11, x_79_6_11_d0, x_79_6_11_d1, x_79_6_11_d2, x_79_6_11_d3, x_79_6_11_d4, x_6_2, x_79_6_12_d0, x_79_6_12_d1, x_79_6_12_d2, x_79_6_12_d3, x_79_6_12_d4, x_62, x_85, x_79_2_11_d0, x_79_2_11_d1, x_79_2_11_d2, x_79_2_11_d3, x_79_2_11_d4, x_79_2_12_d0, x_79_2_12_d1, x_79_2_12_d2, x_79_2_12_d3, x_79_2_12_d4, x_6_3, x_80_2_d0, x_80_2_d1, x_80_2_d2, x_80_2_d3, x_80_2_d4, x_7_5_I, x_7_5_A, x_7_5_U, x_79_1_12_d0, x_79_1_12_d1, x_79_1_12_d2, x_79_1_12_d3, x_79_1_12_d4, x_7_6_I, x_7_6_A, x_7_6_U, x_4_5, x_69, x_42, x_4_6, x_23, x_32, x_68, x_60, x_79_1_11_d0, x_79_1_11_d1, x_79_1_11_d2, x_79_1_11_d3, x_79_1_11_d4, x_80_4_d0, x_80_4_d1, x_80_4_d2, x_80_4_d3, x_80_4_d4, x_79_3_12_d0, x_79_3_12_d1, x_79_3_12_d2, x_79_3_12_d3, x_79_3_12_d4, x_2, x_80_3_d0, x_80_3_d1, x_80_3_d2, x_80_3_d3, x_80_3_d4, x_80_5_d0, x_80_5_d1, x_80_5_d2, x_80_5_d3, x_80_5_d4, x_79_4_12_d0, x_79_4_12_d1, x_79_4_12_d2, x_79_4_12_d3, x_79_4_12_d4, x_10_4_I, x_10_4_A, x_10_4_U, cb_ri, cb_rl, cb_rv, cb_th, cb_ite, ps_s, ps_n, u_368_385, o1, o2, o3, o4, o5, c1, r1, q2, Int.reduceEq, Int.reduceLT, Int.reduceLE, reduceIte, Int.reduceAdd, Int.reduceSub, Int.reduceMul, Int.reduceNeg, Int.reduceToNat, Bool.false_eq_true, eq_self, if_pos, if_neg]
theorem lw_piece (lv i H N : Nat) (h : Hp) (I : INV h H N) (z : Zh h) (hb : h 27 0 0 ≤ 3072) (hi : (i : Int) + 6 ≤ h 27 0 0) : STEP lv 410 i h := by
  intro v5 v6
  obtain ⟨o1, o2, o3, o4, o5⟩ := ob_i _ hb hi
  rcases (ag_piece (lv + 4) (lv + 5) H N  h I) with ⟨v, h1, c1, h2, r1, r3, r5, I2, k1, k2⟩ | ⟨e, h1, c1, hT, b, h2, r1, r3, I2, k1, k2⟩
  · have c1 : cl (lv + 84) _ _ _ = _ := c1
    have r1 : cl (lv + 85) 202 [aA 12 0] _ = _ := r1
    have tc := thrown_c (lv + 84) h2
    rw [r3] at tc
    have wr := wa_piece (lv + 83)  h h1 v c1
    obtain ⟨q2, q7⟩ := Kh_o (t := 25) (k := 0) (j := 0) (v := v) (K_ri c1 (Kh_self h)) (by omega)
    refine ⟨0, h2, aI 0, aI v, by omega, ⟨I2, Z_ri r1 (Zh_o (Z_ri c1 z) (by omega)), fun j => k1 j, k2⟩, ?_⟩
    rw [addc_0]
    generalize hset h1 25 0 0 v = g1 at *
    simp (disch := omega) only [x_1, x_7_4_I, x_7_4_A, x_7_4_U, x_61, x_4_4, x_6_0, x_54, x_12, x_66, x_53, x_17, x_6_1, x_11, x_79_6_11_d0, x_79_6_11_d1, x_79_6_11_d2, x_79_6_11_d3, x_79_6_11_d4, x_6_2, x_79_6_12_d0, x_79_6_12_d1, x_79_6_12_d2, x_79_6_12_d3, x_79_6_12_d4, x_62, x_85, x_79_2_11_d0, x_79_2_11_d1, x_79_2_11_d2, x_79_2_11_d3, x_79_2_11_d4, x_79_2_12_d0, x_79_2_12_d1, x_79_2_12_d2, x_79_2_12_d3, x_79_2_12_d4, x_6_3, x_80_2_d0, x_80_2_d1, x_80_2_d2, x_80_2_d3, x_80_2_d4, x_7_5_I, x_7_5_A, x_7_5_U, x_79_1_12_d0, x_79_1_12_d1, x_79_1_12_d2, x_79_1_12_d3, x_79_1_12_d4, x_7_6_I, x_7_6_A, x_7_6_U, x_4_5, x_69, x_42, x_4_6, x_23, x_32, x_68, x_60, x_79_1_11_d0, x_79_1_11_d1, x_79_1_11_d2, x_79_1_11_d3, x_79_1_11_d4, x_80_4_d0, x_80_4_d1, x_80_4_d2, x_80_4_d3, x_80_4_d4, x_79_3_12_d0, x_79_3_12_d1, x_79_3_12_d2, x_79_3_12_d3, x_79_3_12_d4, x_2, x_80_3_d0, x_80_3_d1, x_80_3_d2, x_80_3_d3, x_80_3_d4, x_80_5_d0, x_80_5_d1, x_80_5_d2, x_80_5_d3, x_80_5_d4, x_79_4_12_d0, x_79_4_12_d1, x_79_4_12_d2, x_79_4_12_d3, x_79_4_12_d4, x_10_4_I, x_10_4_A, x_10_4_U, cb_ri, cb_rl, cb_rv, cb_th, cb_ite, ps_s, ps_n, u_368_410, u_368_434, u_368_451, o1, o2, o3, o4, o5, wr, r1, tc, r5, q2, jc_self, Int.reduceEq, Int.reduceLT, Int.reduceLE, reduceIte, Int.reduceAdd, Int.reduceSub, Int.reduceMul, Int.reduceNeg, Int.reduceToNat, Bool.false_eq_true, eq_self, if_pos, if_neg]
  · have c1 : cl (lv + 84) _ _ _ = _ := c1
    have r1 : cl (lv + 85) 202 [aA 12 0] _ = _ := r1
    have tc := thrown_c (lv + 84) h2
    rw [r3] at tc
    have wr := wb_piece (lv + 83)  h h1 e c1 hT
    obtain ⟨q2, q7⟩ := K_th c1 (Kh_self h)
    refine ⟨1, h2, aI (t03 e : Int), aI b, by omega, ⟨I2, Z_ri r1 (Z_th c1 z), fun j => k1 j, k2⟩, ?_⟩
    generalize t03 e = te at *
    have ht0 : ¬ (te : Int) = 0 := by omega
    simp (disch := omega) only [x_1, x_7_4_I, x_7_4_A, x_7_4_U, x_61, x_4_4, x_6_0, x_54, x_12, x_66, x_53, x_17, x_6_1, x_11, x_79_6_11_d0, x_79_6_11_d1, x_79_6_11_d2, x_79_6_11_d3, x_79_6_11_d4, x_6_2, x_79_6_12_d0, x_79_6_12_d1, x_79_6_12_d2, x_79_6_12_d3, x_79_6_12_d4, x_62, x_85, x_79_2_11_d0, x_79_2_11_d1, x_79_2_11_d2, x_79_2_11_d3, x_79_2_11_d4, x_79_2_12_d0, x_79_2_12_d1, x_79_2_12_d2, x_79_2_12_d3, x_79_2_12_d4, x_6_3, x_80_2_d0, x_80_2_d1, x_80_2_d2, x_80_2_d3, x_80_2_d4, x_7_5_I, x_7_5_A, x_7_5_U, x_79_1_12_d0, x_79_1_12_d1, x_79_1_12_d2, x_79_1_12_d3, x_79_1_12_d4, x_7_6_I, x_7_6_A, x_7_6_U, x_4_5, x_69, x_42, x_4_6, x_23, x_32, x_68, x_60, x_79_1_11_d0, x_79_1_11_d1, x_79_1_11_d2, x_79_1_11_d3, x_79_1_11_d4, x_80_4_d0, x_80_4_d1, x_80_4_d2, x_80_4_d3, x_80_4_d4, x_79_3_12_d0, x_79_3_12_d1, x_79_3_12_d2, x_79_3_12_d3, x_79_3_12_d4, x_2, x_80_3_d0, x_80_3_d1, x_80_3_d2, x_80_3_d3, x_80_3_d4, x_80_5_d0, x_80_5_d1, x_80_5_d2, x_80_5_d3, x_80_5_d4, x_79_4_12_d0, x_79_4_12_d1, x_79_4_12_d2, x_79_4_12_d3, x_79_4_12_d4, x_10_4_I, x_10_4_A, x_10_4_U, cb_ri, cb_rl, cb_rv, cb_th, cb_ite, ps_s, ps_n, u_368_410, u_368_434, u_368_451, o1, o2, o3, o4, o5, wr, cb_r1, r1, tc, q2, ht0, Int.reduceEq, Int.reduceLT, Int.reduceLE, reduceIte, Int.reduceAdd, Int.reduceSub, Int.reduceMul, Int.reduceNeg, Int.reduceToNat, Bool.false_eq_true, eq_self, if_pos, if_neg]
theorem lw_law (lv i H N : Nat) (h : Hp) (I : INV h H N) (z : Zh h) (hb : h 27 0 0 ≤ 3072) (hi : (i : Int) + 6 ≤ h 27 0 0) : STEP lv 454 i h := by
  intro v5 v6
  obtain ⟨o1, o2, o3, o4, o5⟩ := ob_i _ hb hi
  rcases (ag_law (lv + 4) (lv + 5) H N  h I z) with ⟨v, h1, c1, h2, r1, r3, r5, I2, k1, k2⟩ | ⟨e, h1, c1, hT, b, h2, r1, r3, I2, k1, k2⟩
  · have c1 : cl (lv + 84) _ _ _ = _ := c1
    have r1 : cl (lv + 85) 210 [aA 12 0] _ = _ := r1
    have tc := thrown_c (lv + 84) h2
    rw [r3] at tc
    have wr := wa_law (lv + 83)  h h1 v c1
    obtain ⟨q2, q7⟩ := Kh_o (t := 25) (k := 0) (j := 0) (v := v) (K_ri c1 (Kh_self h)) (by omega)
    refine ⟨0, h2, aI 0, aI v, by omega, ⟨I2, Z_ri r1 (Zh_o (Z_ri c1 z) (by omega)), fun j => k1 j, k2⟩, ?_⟩
    rw [addc_0]
    generalize hset h1 25 0 0 v = g1 at *
    simp (disch := omega) only [x_1, x_7_4_I, x_7_4_A, x_7_4_U, x_61, x_4_4, x_6_0, x_54, x_12, x_66, x_53, x_17, x_6_1, x_11, x_79_6_11_d0, x_79_6_11_d1, x_79_6_11_d2, x_79_6_11_d3, x_79_6_11_d4, x_6_2, x_79_6_12_d0, x_79_6_12_d1, x_79_6_12_d2, x_79_6_12_d3, x_79_6_12_d4, x_62, x_85, x_79_2_11_d0, x_79_2_11_d1, x_79_2_11_d2, x_79_2_11_d3, x_79_2_11_d4, x_79_2_12_d0, x_79_2_12_d1, x_79_2_12_d2, x_79_2_12_d3, x_79_2_12_d4, x_6_3, x_80_2_d0, x_80_2_d1, x_80_2_d2, x_80_2_d3, x_80_2_d4, x_7_5_I, x_7_5_A, x_7_5_U, x_79_1_12_d0, x_79_1_12_d1, x_79_1_12_d2, x_79_1_12_d3, x_79_1_12_d4, x_7_6_I, x_7_6_A, x_7_6_U, x_4_5, x_69, x_42, x_4_6, x_23, x_32, x_68, x_60, x_79_1_11_d0, x_79_1_11_d1, x_79_1_11_d2, x_79_1_11_d3, x_79_1_11_d4, x_80_4_d0, x_80_4_d1, x_80_4_d2, x_80_4_d3, x_80_4_d4, x_79_3_12_d0, x_79_3_12_d1, x_79_3_12_d2, x_79_3_12_d3, x_79_3_12_d4, x_2, x_80_3_d0, x_80_3_d1, x_80_3_d2, x_80_3_d3, x_80_3_d4, x_80_5_d0, x_80_5_d1, x_80_5_d2, x_80_5_d3, x_80_5_d4, x_79_4_12_d0, x_79_4_12_d1, x_79_4_12_d2, x_79_4_12_d3, x_79_4_12_d4, x_10_4_I, x_10_4_A, x_10_4_U, cb_ri, cb_rl, cb_rv, cb_th, cb_ite, ps_s, ps_n, u_368_454, u_368_478, u_368_495, o1, o2, o3, o4, o5, wr, r1, tc, r5, q2, jc_self, Int.reduceEq, Int.reduceLT, Int.reduceLE, reduceIte, Int.reduceAdd, Int.reduceSub, Int.reduceMul, Int.reduceNeg, Int.reduceToNat, Bool.false_eq_true, eq_self, if_pos, if_neg]
  · have c1 : cl (lv + 84) _ _ _ = _ := c1
    have r1 : cl (lv + 85) 210 [aA 12 0] _ = _ := r1
    have tc := thrown_c (lv + 84) h2
    rw [r3] at tc
    have wr := wb_law (lv + 83)  h h1 e c1 hT
    obtain ⟨q2, q7⟩ := K_th c1 (Kh_self h)
    refine ⟨1, h2, aI (t0 e : Int), aI b, by omega, ⟨I2, Z_ri r1 (Z_th c1 z), fun j => k1 j, k2⟩, ?_⟩
    generalize t0 e = te at *
    have ht0 : ¬ (te : Int) = 0 := by omega
    simp (disch := omega) only [x_1, x_7_4_I, x_7_4_A, x_7_4_U, x_61, x_4_4, x_6_0, x_54, x_12, x_66, x_53, x_17, x_6_1, x_11, x_79_6_11_d0, x_79_6_11_d1, x_79_6_11_d2, x_79_6_11_d3, x_79_6_11_d4, x_6_2, x_79_6_12_d0, x_79_6_12_d1, x_79_6_12_d2, x_79_6_12_d3, x_79_6_12_d4, x_62, x_85, x_79_2_11_d0, x_79_2_11_d1, x_79_2_11_d2, x_79_2_11_d3, x_79_2_11_d4, x_79_2_12_d0, x_79_2_12_d1, x_79_2_12_d2, x_79_2_12_d3, x_79_2_12_d4, x_6_3, x_80_2_d0, x_80_2_d1, x_80_2_d2, x_80_2_d3, x_80_2_d4, x_7_5_I, x_7_5_A, x_7_5_U, x_79_1_12_d0, x_79_1_12_d1, x_79_1_12_d2, x_79_1_12_d3, x_79_1_12_d4, x_7_6_I, x_7_6_A, x_7_6_U, x_4_5, x_69, x_42, x_4_6, x_23, x_32, x_68, x_60, x_79_1_11_d0, x_79_1_11_d1, x_79_1_11_d2, x_79_1_11_d3, x_79_1_11_d4, x_80_4_d0, x_80_4_d1, x_80_4_d2, x_80_4_d3, x_80_4_d4, x_79_3_12_d0, x_79_3_12_d1, x_79_3_12_d2, x_79_3_12_d3, x_79_3_12_d4, x_2, x_80_3_d0, x_80_3_d1, x_80_3_d2, x_80_3_d3, x_80_3_d4, x_80_5_d0, x_80_5_d1, x_80_5_d2, x_80_5_d3, x_80_5_d4, x_79_4_12_d0, x_79_4_12_d1, x_79_4_12_d2, x_79_4_12_d3, x_79_4_12_d4, x_10_4_I, x_10_4_A, x_10_4_U, cb_ri, cb_rl, cb_rv, cb_th, cb_ite, ps_s, ps_n, u_368_454, u_368_478, u_368_495, o1, o2, o3, o4, o5, wr, cb_r1, r1, tc, q2, ht0, Int.reduceEq, Int.reduceLT, Int.reduceLE, reduceIte, Int.reduceAdd, Int.reduceSub, Int.reduceMul, Int.reduceNeg, Int.reduceToNat, Bool.false_eq_true, eq_self, if_pos, if_neg]
theorem lw_fault (lv i H N : Nat) (h : Hp) (I : INV h H N) (z : Zh h) (hb : h 27 0 0 ≤ 3072) (hi : (i : Int) + 6 ≤ h 27 0 0) : STEP lv 498 i h := by
  intro v5 v6
  obtain ⟨o1, o2, o3, o4, o5⟩ := ob_i _ hb hi
  obtain ⟨v, h1, h2, c1, r1, I2, k1, k2⟩ := ag_fault (lv + 5) (lv + 5) H N  h I
  have c1 : cl (lv + 85) _ _ _ = _ := c1
  have r1 : cl (lv + 85) _ _ _ = _ := r1
  obtain ⟨q2, q7⟩ := K_ri c1 (Kh_self h)
  refine ⟨0, h2, v5, v6, by omega, ⟨I2, Z_ri r1 (Z_ri c1 z), fun j => k1 j, k2⟩, ?_⟩
  rw [addc_0]
  simp (disch := omega) only [x_1, x_7_4_I, x_7_4_A, x_7_4_U, x_61, x_4_4, x_6_0, x_54, x_12, x_66, x_53, x_17, x_6_1, x_11, x_79_6_11_d0, x_79_6_11_d1, x_79_6_11_d2, x_79_6_11_d3, x_79_6_11_d4, x_6_2, x_79_6_12_d0, x_79_6_12_d1, x_79_6_12_d2, x_79_6_12_d3, x_79_6_12_d4, x_62, x_85, x_79_2_11_d0, x_79_2_11_d1, x_79_2_11_d2, x_79_2_11_d3, x_79_2_11_d4, x_79_2_12_d0, x_79_2_12_d1, x_79_2_12_d2, x_79_2_12_d3, x_79_2_12_d4, x_6_3, x_80_2_d0, x_80_2_d1, x_80_2_d2, x_80_2_d3, x_80_2_d4, x_7_5_I, x_7_5_A, x_7_5_U, x_79_1_12_d0, x_79_1_12_d1, x_79_1_12_d2, x_79_1_12_d3, x_79_1_12_d4, x_7_6_I, x_7_6_A, x_7_6_U, x_4_5, x_69, x_42, x_4_6, x_23, x_32, x_68, x_60, x_79_1_11_d0, x_79_1_11_d1, x_79_1_11_d2, x_79_1_11_d3, x_79_1_11_d4, x_80_4_d0, x_80_4_d1, x_80_4_d2, x_80_4_d3, x_80_4_d4, x_79_3_12_d0, x_79_3_12_d1, x_79_3_12_d2, x_79_3_12_d3, x_79_3_12_d4, x_2, x_80_3_d0, x_80_3_d1, x_80_3_d2, x_80_3_d3, x_80_3_d4, x_80_5_d0, x_80_5_d1, x_80_5_d2, x_80_5_d3, x_80_5_d4, x_79_4_12_d0, x_79_4_12_d1, x_79_4_12_d2, x_79_4_12_d3, x_79_4_12_d4, x_10_4_I, x_10_4_A, x_10_4_U, cb_ri, cb_rl, cb_rv, cb_th, cb_ite, ps_s, ps_n, u_368_498, o1, o2, o3, o4, o5, c1, r1, q2, Int.reduceEq, Int.reduceLT, Int.reduceLE, reduceIte, Int.reduceAdd, Int.reduceSub, Int.reduceMul, Int.reduceNeg, Int.reduceToNat, Bool.false_eq_true, eq_self, if_pos, if_neg]
theorem lw_hand (lv i H N : Nat) (h : Hp) (I : INV h H N) (z : Zh h) (hb : h 27 0 0 ≤ 3072) (hi : (i : Int) + 6 ≤ h 27 0 0) : STEP lv 511 i h := by
  intro v5 v6
  obtain ⟨o1, o2, o3, o4, o5⟩ := ob_i _ hb hi
  rcases (ag_hand (lv + 4) (lv + 5) H N (h 22 0 ((i : Int) + 1).toNat) (h 22 0 ((i : Int) + 2).toNat) h I) with ⟨v, h1, c1, h2, r1, r3, r5, I2, k1, k2⟩ | ⟨e, h1, c1, hT, b, h2, r1, r3, I2, k1, k2⟩
  · have c1 : cl (lv + 84) _ _ _ = _ := c1
    have r1 : cl (lv + 85) 233 [aA 12 0, aI (h 22 0 ((i : Int) + 1).toNat), aI (h 22 0 ((i : Int) + 2).toNat)] _ = _ := r1
    have tc := thrown_c (lv + 84) h2
    rw [r3] at tc
    have wr := wa_hand (lv + 83) (h 22 0 ((i : Int) + 1).toNat) (h 22 0 ((i : Int) + 2).toNat) h h1 v c1
    obtain ⟨q2, q7⟩ := Kh_o (t := 25) (k := 0) (j := 0) (v := v) (K_ri c1 (Kh_self h)) (by omega)
    refine ⟨0, h2, aI 0, aI v, by omega, ⟨I2, Z_ri r1 (Zh_o (Z_ri c1 z) (by omega)), fun j => k1 j, k2⟩, ?_⟩
    rw [addc_0]
    generalize hset h1 25 0 0 v = g1 at *
    simp (disch := omega) only [x_1, x_7_4_I, x_7_4_A, x_7_4_U, x_61, x_4_4, x_6_0, x_54, x_12, x_66, x_53, x_17, x_6_1, x_11, x_79_6_11_d0, x_79_6_11_d1, x_79_6_11_d2, x_79_6_11_d3, x_79_6_11_d4, x_6_2, x_79_6_12_d0, x_79_6_12_d1, x_79_6_12_d2, x_79_6_12_d3, x_79_6_12_d4, x_62, x_85, x_79_2_11_d0, x_79_2_11_d1, x_79_2_11_d2, x_79_2_11_d3, x_79_2_11_d4, x_79_2_12_d0, x_79_2_12_d1, x_79_2_12_d2, x_79_2_12_d3, x_79_2_12_d4, x_6_3, x_80_2_d0, x_80_2_d1, x_80_2_d2, x_80_2_d3, x_80_2_d4, x_7_5_I, x_7_5_A, x_7_5_U, x_79_1_12_d0, x_79_1_12_d1, x_79_1_12_d2, x_79_1_12_d3, x_79_1_12_d4, x_7_6_I, x_7_6_A, x_7_6_U, x_4_5, x_69, x_42, x_4_6, x_23, x_32, x_68, x_60, x_79_1_11_d0, x_79_1_11_d1, x_79_1_11_d2, x_79_1_11_d3, x_79_1_11_d4, x_80_4_d0, x_80_4_d1, x_80_4_d2, x_80_4_d3, x_80_4_d4, x_79_3_12_d0, x_79_3_12_d1, x_79_3_12_d2, x_79_3_12_d3, x_79_3_12_d4, x_2, x_80_3_d0, x_80_3_d1, x_80_3_d2, x_80_3_d3, x_80_3_d4, x_80_5_d0, x_80_5_d1, x_80_5_d2, x_80_5_d3, x_80_5_d4, x_79_4_12_d0, x_79_4_12_d1, x_79_4_12_d2, x_79_4_12_d3, x_79_4_12_d4, x_10_4_I, x_10_4_A, x_10_4_U, cb_ri, cb_rl, cb_rv, cb_th, cb_ite, ps_s, ps_n, u_368_511, u_368_559, u_368_576, o1, o2, o3, o4, o5, wr, r1, tc, r5, q2, jc_self, Int.reduceEq, Int.reduceLT, Int.reduceLE, reduceIte, Int.reduceAdd, Int.reduceSub, Int.reduceMul, Int.reduceNeg, Int.reduceToNat, Bool.false_eq_true, eq_self, if_pos, if_neg]
  · have c1 : cl (lv + 84) _ _ _ = _ := c1
    have r1 : cl (lv + 85) 233 [aA 12 0, aI (h 22 0 ((i : Int) + 1).toNat), aI (h 22 0 ((i : Int) + 2).toNat)] _ = _ := r1
    have tc := thrown_c (lv + 84) h2
    rw [r3] at tc
    have wr := wb_hand (lv + 83) (h 22 0 ((i : Int) + 1).toNat) (h 22 0 ((i : Int) + 2).toNat) h h1 e c1 hT
    obtain ⟨q2, q7⟩ := K_th c1 (Kh_self h)
    refine ⟨1, h2, aI (t24 e : Int), aI b, by omega, ⟨I2, Z_ri r1 (Z_th c1 z), fun j => k1 j, k2⟩, ?_⟩
    generalize t24 e = te at *
    have ht0 : ¬ (te : Int) = 0 := by omega
    simp (disch := omega) only [x_1, x_7_4_I, x_7_4_A, x_7_4_U, x_61, x_4_4, x_6_0, x_54, x_12, x_66, x_53, x_17, x_6_1, x_11, x_79_6_11_d0, x_79_6_11_d1, x_79_6_11_d2, x_79_6_11_d3, x_79_6_11_d4, x_6_2, x_79_6_12_d0, x_79_6_12_d1, x_79_6_12_d2, x_79_6_12_d3, x_79_6_12_d4, x_62, x_85, x_79_2_11_d0, x_79_2_11_d1, x_79_2_11_d2, x_79_2_11_d3, x_79_2_11_d4, x_79_2_12_d0, x_79_2_12_d1, x_79_2_12_d2, x_79_2_12_d3, x_79_2_12_d4, x_6_3, x_80_2_d0, x_80_2_d1, x_80_2_d2, x_80_2_d3, x_80_2_d4, x_7_5_I, x_7_5_A, x_7_5_U, x_79_1_12_d0, x_79_1_12_d1, x_79_1_12_d2, x_79_1_12_d3, x_79_1_12_d4, x_7_6_I, x_7_6_A, x_7_6_U, x_4_5, x_69, x_42, x_4_6, x_23, x_32, x_68, x_60, x_79_1_11_d0, x_79_1_11_d1, x_79_1_11_d2, x_79_1_11_d3, x_79_1_11_d4, x_80_4_d0, x_80_4_d1, x_80_4_d2, x_80_4_d3, x_80_4_d4, x_79_3_12_d0, x_79_3_12_d1, x_79_3_12_d2, x_79_3_12_d3, x_79_3_12_d4, x_2, x_80_3_d0, x_80_3_d1, x_80_3_d2, x_80_3_d3, x_80_3_d4, x_80_5_d0, x_80_5_d1, x_80_5_d2, x_80_5_d3, x_80_5_d4, x_79_4_12_d0, x_79_4_12_d1, x_79_4_12_d2, x_79_4_12_d3, x_79_4_12_d4, x_10_4_I, x_10_4_A, x_10_4_U, cb_ri, cb_rl, cb_rv, cb_th, cb_ite, ps_s, ps_n, u_368_511, u_368_559, u_368_576, o1, o2, o3, o4, o5, wr, cb_r1, r1, tc, q2, ht0, Int.reduceEq, Int.reduceLT, Int.reduceLE, reduceIte, Int.reduceAdd, Int.reduceSub, Int.reduceMul, Int.reduceNeg, Int.reduceToNat, Bool.false_eq_true, eq_self, if_pos, if_neg]
theorem lw_note (lv i H N : Nat) (h : Hp) (I : INV h H N) (z : Zh h) (hb : h 27 0 0 ≤ 3072) (hi : (i : Int) + 6 ≤ h 27 0 0) : STEP lv 579 i h := by
  intro v5 v6
  obtain ⟨o1, o2, o3, o4, o5⟩ := ob_i _ hb hi
  rcases (ag_note (lv + 4) (lv + 5) H N (h 22 0 ((i : Int) + 1).toNat) (h 22 0 ((i : Int) + 2).toNat) h I) with ⟨v, h1, c1, h2, r1, r3, r5, I2, k1, k2⟩ | ⟨e, h1, c1, hT, b, h2, r1, r3, I2, k1, k2⟩
  · have c1 : cl (lv + 84) _ _ _ = _ := c1
    have r1 : cl (lv + 85) 234 [aA 12 0, aI (h 22 0 ((i : Int) + 1).toNat), aI (h 22 0 ((i : Int) + 2).toNat)] _ = _ := r1
    have tc := thrown_c (lv + 84) h2
    rw [r3] at tc
    have wr := wa_note (lv + 83) (h 22 0 ((i : Int) + 1).toNat) (h 22 0 ((i : Int) + 2).toNat) h h1 v c1
    obtain ⟨q2, q7⟩ := Kh_o (t := 25) (k := 0) (j := 0) (v := v) (K_ri c1 (Kh_self h)) (by omega)
    refine ⟨0, h2, aI 0, aI v, by omega, ⟨I2, Z_ri r1 (Zh_o (Z_ri c1 z) (by omega)), fun j => k1 j, k2⟩, ?_⟩
    rw [addc_0]
    generalize hset h1 25 0 0 v = g1 at *
    simp (disch := omega) only [x_1, x_7_4_I, x_7_4_A, x_7_4_U, x_61, x_4_4, x_6_0, x_54, x_12, x_66, x_53, x_17, x_6_1, x_11, x_79_6_11_d0, x_79_6_11_d1, x_79_6_11_d2, x_79_6_11_d3, x_79_6_11_d4, x_6_2, x_79_6_12_d0, x_79_6_12_d1, x_79_6_12_d2, x_79_6_12_d3, x_79_6_12_d4, x_62, x_85, x_79_2_11_d0, x_79_2_11_d1, x_79_2_11_d2, x_79_2_11_d3, x_79_2_11_d4, x_79_2_12_d0, x_79_2_12_d1, x_79_2_12_d2, x_79_2_12_d3, x_79_2_12_d4, x_6_3, x_80_2_d0, x_80_2_d1, x_80_2_d2, x_80_2_d3, x_80_2_d4, x_7_5_I, x_7_5_A, x_7_5_U, x_79_1_12_d0, x_79_1_12_d1, x_79_1_12_d2, x_79_1_12_d3, x_79_1_12_d4, x_7_6_I, x_7_6_A, x_7_6_U, x_4_5, x_69, x_42, x_4_6, x_23, x_32, x_68, x_60, x_79_1_11_d0, x_79_1_11_d1, x_79_1_11_d2, x_79_1_11_d3, x_79_1_11_d4, x_80_4_d0, x_80_4_d1, x_80_4_d2, x_80_4_d3, x_80_4_d4, x_79_3_12_d0, x_79_3_12_d1, x_79_3_12_d2, x_79_3_12_d3, x_79_3_12_d4, x_2, x_80_3_d0, x_80_3_d1, x_80_3_d2, x_80_3_d3, x_80_3_d4, x_80_5_d0, x_80_5_d1, x_80_5_d2, x_80_5_d3, x_80_5_d4, x_79_4_12_d0, x_79_4_12_d1, x_79_4_12_d2, x_79_4_12_d3, x_79_4_12_d4, x_10_4_I, x_10_4_A, x_10_4_U, cb_ri, cb_rl, cb_rv, cb_th, cb_ite, ps_s, ps_n, u_368_579, u_368_627, u_368_644, o1, o2, o3, o4, o5, wr, r1, tc, r5, q2, jc_self, Int.reduceEq, Int.reduceLT, Int.reduceLE, reduceIte, Int.reduceAdd, Int.reduceSub, Int.reduceMul, Int.reduceNeg, Int.reduceToNat, Bool.false_eq_true, eq_self, if_pos, if_neg]
  · have c1 : cl (lv + 84) _ _ _ = _ := c1
    have r1 : cl (lv + 85) 234 [aA 12 0, aI (h 22 0 ((i : Int) + 1).toNat), aI (h 22 0 ((i : Int) + 2).toNat)] _ = _ := r1
    have tc := thrown_c (lv + 84) h2
    rw [r3] at tc
    have wr := wb_note (lv + 83) (h 22 0 ((i : Int) + 1).toNat) (h 22 0 ((i : Int) + 2).toNat) h h1 e c1 hT
    obtain ⟨q2, q7⟩ := K_th c1 (Kh_self h)
    refine ⟨1, h2, aI (t24 e : Int), aI b, by omega, ⟨I2, Z_ri r1 (Z_th c1 z), fun j => k1 j, k2⟩, ?_⟩
    generalize t24 e = te at *
    have ht0 : ¬ (te : Int) = 0 := by omega
    simp (disch := omega) only [x_1, x_7_4_I, x_7_4_A, x_7_4_U, x_61, x_4_4, x_6_0, x_54, x_12, x_66, x_53, x_17, x_6_1, x_11, x_79_6_11_d0, x_79_6_11_d1, x_79_6_11_d2, x_79_6_11_d3, x_79_6_11_d4, x_6_2, x_79_6_12_d0, x_79_6_12_d1, x_79_6_12_d2, x_79_6_12_d3, x_79_6_12_d4, x_62, x_85, x_79_2_11_d0, x_79_2_11_d1, x_79_2_11_d2, x_79_2_11_d3, x_79_2_11_d4, x_79_2_12_d0, x_79_2_12_d1, x_79_2_12_d2, x_79_2_12_d3, x_79_2_12_d4, x_6_3, x_80_2_d0, x_80_2_d1, x_80_2_d2, x_80_2_d3, x_80_2_d4, x_7_5_I, x_7_5_A, x_7_5_U, x_79_1_12_d0, x_79_1_12_d1, x_79_1_12_d2, x_79_1_12_d3, x_79_1_12_d4, x_7_6_I, x_7_6_A, x_7_6_U, x_4_5, x_69, x_42, x_4_6, x_23, x_32, x_68, x_60, x_79_1_11_d0, x_79_1_11_d1, x_79_1_11_d2, x_79_1_11_d3, x_79_1_11_d4, x_80_4_d0, x_80_4_d1, x_80_4_d2, x_80_4_d3, x_80_4_d4, x_79_3_12_d0, x_79_3_12_d1, x_79_3_12_d2, x_79_3_12_d3, x_79_3_12_d4, x_2, x_80_3_d0, x_80_3_d1, x_80_3_d2, x_80_3_d3, x_80_3_d4, x_80_5_d0, x_80_5_d1, x_80_5_d2, x_80_5_d3, x_80_5_d4, x_79_4_12_d0, x_79_4_12_d1, x_79_4_12_d2, x_79_4_12_d3, x_79_4_12_d4, x_10_4_I, x_10_4_A, x_10_4_U, cb_ri, cb_rl, cb_rv, cb_th, cb_ite, ps_s, ps_n, u_368_579, u_368_627, u_368_644, o1, o2, o3, o4, o5, wr, cb_r1, r1, tc, q2, ht0, Int.reduceEq, Int.reduceLT, Int.reduceLE, reduceIte, Int.reduceAdd, Int.reduceSub, Int.reduceMul, Int.reduceNeg, Int.reduceToNat, Bool.false_eq_true, eq_self, if_pos, if_neg]
theorem lw_can (lv i H N : Nat) (h : Hp) (I : INV h H N) (z : Zh h) (hb : h 27 0 0 ≤ 3072) (hi : (i : Int) + 6 ≤ h 27 0 0) : STEP lv 647 i h := by
  intro v5 v6
  obtain ⟨o1, o2, o3, o4, o5⟩ := ob_i _ hb hi
  rcases (ag_can (lv + 4) (lv + 5) H N (h 22 0 ((i : Int) + 1).toNat) (h 22 0 ((i : Int) + 2).toNat) h I) with ⟨v, h1, c1, h2, r1, r3, r5, I2, k1, k2⟩ | ⟨e, h1, c1, hT, b, h2, r1, r3, I2, k1, k2⟩
  · have c1 : cl (lv + 84) _ _ _ = _ := c1
    have r1 : cl (lv + 85) 236 [aA 12 0, aI (h 22 0 ((i : Int) + 1).toNat), aI (h 22 0 ((i : Int) + 2).toNat)] _ = _ := r1
    have tc := thrown_c (lv + 84) h2
    rw [r3] at tc
    have hv := b_can _ _ h v h1 c1
    have wr := wa_can (lv + 83) (h 22 0 ((i : Int) + 1).toNat) (h 22 0 ((i : Int) + 2).toNat) h h1 v c1 hv
    obtain ⟨q2, q7⟩ := Kh_o (t := 25) (k := 0) (j := 0) (v := v) (K_ri c1 (Kh_self h)) (by omega)
    refine ⟨0, h2, aI 0, aI v, by omega, ⟨I2, Z_ri r1 (Zh_o (Z_ri c1 z) (by omega)), fun j => k1 j, k2⟩, ?_⟩
    rw [addc_0]
    generalize hset h1 25 0 0 v = g1 at *
    rcases hv with rfl | rfl
    · simp (disch := omega) only [x_1, x_7_4_I, x_7_4_A, x_7_4_U, x_61, x_4_4, x_6_0, x_54, x_12, x_66, x_53, x_17, x_6_1, x_11, x_79_6_11_d0, x_79_6_11_d1, x_79_6_11_d2, x_79_6_11_d3, x_79_6_11_d4, x_6_2, x_79_6_12_d0, x_79_6_12_d1, x_79_6_12_d2, x_79_6_12_d3, x_79_6_12_d4, x_62, x_85, x_79_2_11_d0, x_79_2_11_d1, x_79_2_11_d2, x_79_2_11_d3, x_79_2_11_d4, x_79_2_12_d0, x_79_2_12_d1, x_79_2_12_d2, x_79_2_12_d3, x_79_2_12_d4, x_6_3, x_80_2_d0, x_80_2_d1, x_80_2_d2, x_80_2_d3, x_80_2_d4, x_7_5_I, x_7_5_A, x_7_5_U, x_79_1_12_d0, x_79_1_12_d1, x_79_1_12_d2, x_79_1_12_d3, x_79_1_12_d4, x_7_6_I, x_7_6_A, x_7_6_U, x_4_5, x_69, x_42, x_4_6, x_23, x_32, x_68, x_60, x_79_1_11_d0, x_79_1_11_d1, x_79_1_11_d2, x_79_1_11_d3, x_79_1_11_d4, x_80_4_d0, x_80_4_d1, x_80_4_d2, x_80_4_d3, x_80_4_d4, x_79_3_12_d0, x_79_3_12_d1, x_79_3_12_d2, x_79_3_12_d3, x_79_3_12_d4, x_2, x_80_3_d0, x_80_3_d1, x_80_3_d2, x_80_3_d3, x_80_3_d4, x_80_5_d0, x_80_5_d1, x_80_5_d2, x_80_5_d3, x_80_5_d4, x_79_4_12_d0, x_79_4_12_d1, x_79_4_12_d2, x_79_4_12_d3, x_79_4_12_d4, x_10_4_I, x_10_4_A, x_10_4_U, cb_ri, cb_rl, cb_rv, cb_th, cb_ite, ps_s, ps_n, u_368_647, u_368_695, u_368_712, u_368_713, u_368_719, o1, o2, o3, o4, o5, wr, r1, tc, r5, q2, jc_self, Int.reduceEq, Int.reduceLT, Int.reduceLE, reduceIte, Int.reduceAdd, Int.reduceSub, Int.reduceMul, Int.reduceNeg, Int.reduceToNat, Bool.false_eq_true, eq_self, if_pos, if_neg]
    · simp (disch := omega) only [x_1, x_7_4_I, x_7_4_A, x_7_4_U, x_61, x_4_4, x_6_0, x_54, x_12, x_66, x_53, x_17, x_6_1, x_11, x_79_6_11_d0, x_79_6_11_d1, x_79_6_11_d2, x_79_6_11_d3, x_79_6_11_d4, x_6_2, x_79_6_12_d0, x_79_6_12_d1, x_79_6_12_d2, x_79_6_12_d3, x_79_6_12_d4, x_62, x_85, x_79_2_11_d0, x_79_2_11_d1, x_79_2_11_d2, x_79_2_11_d3, x_79_2_11_d4, x_79_2_12_d0, x_79_2_12_d1, x_79_2_12_d2, x_79_2_12_d3, x_79_2_12_d4, x_6_3, x_80_2_d0, x_80_2_d1, x_80_2_d2, x_80_2_d3, x_80_2_d4, x_7_5_I, x_7_5_A, x_7_5_U, x_79_1_12_d0, x_79_1_12_d1, x_79_1_12_d2, x_79_1_12_d3, x_79_1_12_d4, x_7_6_I, x_7_6_A, x_7_6_U, x_4_5, x_69, x_42, x_4_6, x_23, x_32, x_68, x_60, x_79_1_11_d0, x_79_1_11_d1, x_79_1_11_d2, x_79_1_11_d3, x_79_1_11_d4, x_80_4_d0, x_80_4_d1, x_80_4_d2, x_80_4_d3, x_80_4_d4, x_79_3_12_d0, x_79_3_12_d1, x_79_3_12_d2, x_79_3_12_d3, x_79_3_12_d4, x_2, x_80_3_d0, x_80_3_d1, x_80_3_d2, x_80_3_d3, x_80_3_d4, x_80_5_d0, x_80_5_d1, x_80_5_d2, x_80_5_d3, x_80_5_d4, x_79_4_12_d0, x_79_4_12_d1, x_79_4_12_d2, x_79_4_12_d3, x_79_4_12_d4, x_10_4_I, x_10_4_A, x_10_4_U, cb_ri, cb_rl, cb_rv, cb_th, cb_ite, ps_s, ps_n, u_368_647, u_368_695, u_368_712, u_368_713, u_368_719, o1, o2, o3, o4, o5, wr, r1, tc, r5, q2, jc_self, Int.reduceEq, Int.reduceLT, Int.reduceLE, reduceIte, Int.reduceAdd, Int.reduceSub, Int.reduceMul, Int.reduceNeg, Int.reduceToNat, Bool.false_eq_true, eq_self, if_pos, if_neg]
  · have c1 : cl (lv + 84) _ _ _ = _ := c1
    have r1 : cl (lv + 85) 236 [aA 12 0, aI (h 22 0 ((i : Int) + 1).toNat), aI (h 22 0 ((i : Int) + 2).toNat)] _ = _ := r1
    have tc := thrown_c (lv + 84) h2
    rw [r3] at tc
    have wr := wb_can (lv + 83) (h 22 0 ((i : Int) + 1).toNat) (h 22 0 ((i : Int) + 2).toNat) h h1 e c1 hT
    obtain ⟨q2, q7⟩ := K_th c1 (Kh_self h)
    refine ⟨1, h2, aI (t2 e : Int), aI b, by omega, ⟨I2, Z_ri r1 (Z_th c1 z), fun j => k1 j, k2⟩, ?_⟩
    generalize t2 e = te at *
    have ht0 : ¬ (te : Int) = 0 := by omega
    simp (disch := omega) only [x_1, x_7_4_I, x_7_4_A, x_7_4_U, x_61, x_4_4, x_6_0, x_54, x_12, x_66, x_53, x_17, x_6_1, x_11, x_79_6_11_d0, x_79_6_11_d1, x_79_6_11_d2, x_79_6_11_d3, x_79_6_11_d4, x_6_2, x_79_6_12_d0, x_79_6_12_d1, x_79_6_12_d2, x_79_6_12_d3, x_79_6_12_d4, x_62, x_85, x_79_2_11_d0, x_79_2_11_d1, x_79_2_11_d2, x_79_2_11_d3, x_79_2_11_d4, x_79_2_12_d0, x_79_2_12_d1, x_79_2_12_d2, x_79_2_12_d3, x_79_2_12_d4, x_6_3, x_80_2_d0, x_80_2_d1, x_80_2_d2, x_80_2_d3, x_80_2_d4, x_7_5_I, x_7_5_A, x_7_5_U, x_79_1_12_d0, x_79_1_12_d1, x_79_1_12_d2, x_79_1_12_d3, x_79_1_12_d4, x_7_6_I, x_7_6_A, x_7_6_U, x_4_5, x_69, x_42, x_4_6, x_23, x_32, x_68, x_60, x_79_1_11_d0, x_79_1_11_d1, x_79_1_11_d2, x_79_1_11_d3, x_79_1_11_d4, x_80_4_d0, x_80_4_d1, x_80_4_d2, x_80_4_d3, x_80_4_d4, x_79_3_12_d0, x_79_3_12_d1, x_79_3_12_d2, x_79_3_12_d3, x_79_3_12_d4, x_2, x_80_3_d0, x_80_3_d1, x_80_3_d2, x_80_3_d3, x_80_3_d4, x_80_5_d0, x_80_5_d1, x_80_5_d2, x_80_5_d3, x_80_5_d4, x_79_4_12_d0, x_79_4_12_d1, x_79_4_12_d2, x_79_4_12_d3, x_79_4_12_d4, x_10_4_I, x_10_4_A, x_10_4_U, cb_ri, cb_rl, cb_rv, cb_th, cb_ite, ps_s, ps_n, u_368_647, u_368_695, u_368_712, u_368_713, u_368_719, o1, o2, o3, o4, o5, wr, cb_r1, r1, tc, q2, ht0, Int.reduceEq, Int.reduceLT, Int.reduceLE, reduceIte, Int.reduceAdd, Int.reduceSub, Int.reduceMul, Int.reduceNeg, Int.reduceToNat, Bool.false_eq_true, eq_self, if_pos, if_neg]
theorem lw_reaches (lv i H N : Nat) (h : Hp) (I : INV h H N) (z : Zh h) (hb : h 27 0 0 ≤ 3072) (hi : (i : Int) + 6 ≤ h 27 0 0) : STEP lv 722 i h := by
  intro v5 v6
  obtain ⟨o1, o2, o3, o4, o5⟩ := ob_i _ hb hi
  rcases (ag_reaches (lv + 4) (lv + 5) H N (h 22 0 ((i : Int) + 1).toNat) (h 22 0 ((i : Int) + 2).toNat) h I) with ⟨v, h1, c1, h2, r1, r3, r5, I2, k1, k2⟩ | ⟨e, h1, c1, hT, b, h2, r1, r3, I2, k1, k2⟩
  · have c1 : cl (lv + 84) _ _ _ = _ := c1
    have r1 : cl (lv + 85) 237 [aA 12 0, aI (h 22 0 ((i : Int) + 1).toNat), aI (h 22 0 ((i : Int) + 2).toNat)] _ = _ := r1
    have tc := thrown_c (lv + 84) h2
    rw [r3] at tc
    have wr := wa_reaches (lv + 83) (h 22 0 ((i : Int) + 1).toNat) (h 22 0 ((i : Int) + 2).toNat) h h1 v c1
    obtain ⟨q2, q7⟩ := Kh_o (t := 25) (k := 0) (j := 0) (v := v) (K_ri c1 (Kh_self h)) (by omega)
    refine ⟨0, h2, aI 0, aI v, by omega, ⟨I2, Z_ri r1 (Zh_o (Z_ri c1 z) (by omega)), fun j => k1 j, k2⟩, ?_⟩
    rw [addc_0]
    generalize hset h1 25 0 0 v = g1 at *
    simp (disch := omega) only [x_1, x_7_4_I, x_7_4_A, x_7_4_U, x_61, x_4_4, x_6_0, x_54, x_12, x_66, x_53, x_17, x_6_1, x_11, x_79_6_11_d0, x_79_6_11_d1, x_79_6_11_d2, x_79_6_11_d3, x_79_6_11_d4, x_6_2, x_79_6_12_d0, x_79_6_12_d1, x_79_6_12_d2, x_79_6_12_d3, x_79_6_12_d4, x_62, x_85, x_79_2_11_d0, x_79_2_11_d1, x_79_2_11_d2, x_79_2_11_d3, x_79_2_11_d4, x_79_2_12_d0, x_79_2_12_d1, x_79_2_12_d2, x_79_2_12_d3, x_79_2_12_d4, x_6_3, x_80_2_d0, x_80_2_d1, x_80_2_d2, x_80_2_d3, x_80_2_d4, x_7_5_I, x_7_5_A, x_7_5_U, x_79_1_12_d0, x_79_1_12_d1, x_79_1_12_d2, x_79_1_12_d3, x_79_1_12_d4, x_7_6_I, x_7_6_A, x_7_6_U, x_4_5, x_69, x_42, x_4_6, x_23, x_32, x_68, x_60, x_79_1_11_d0, x_79_1_11_d1, x_79_1_11_d2, x_79_1_11_d3, x_79_1_11_d4, x_80_4_d0, x_80_4_d1, x_80_4_d2, x_80_4_d3, x_80_4_d4, x_79_3_12_d0, x_79_3_12_d1, x_79_3_12_d2, x_79_3_12_d3, x_79_3_12_d4, x_2, x_80_3_d0, x_80_3_d1, x_80_3_d2, x_80_3_d3, x_80_3_d4, x_80_5_d0, x_80_5_d1, x_80_5_d2, x_80_5_d3, x_80_5_d4, x_79_4_12_d0, x_79_4_12_d1, x_79_4_12_d2, x_79_4_12_d3, x_79_4_12_d4, x_10_4_I, x_10_4_A, x_10_4_U, cb_ri, cb_rl, cb_rv, cb_th, cb_ite, ps_s, ps_n, u_368_722, u_368_770, u_368_787, o1, o2, o3, o4, o5, wr, r1, tc, r5, q2, jc_self, Int.reduceEq, Int.reduceLT, Int.reduceLE, reduceIte, Int.reduceAdd, Int.reduceSub, Int.reduceMul, Int.reduceNeg, Int.reduceToNat, Bool.false_eq_true, eq_self, if_pos, if_neg]
  · have c1 : cl (lv + 84) _ _ _ = _ := c1
    have r1 : cl (lv + 85) 237 [aA 12 0, aI (h 22 0 ((i : Int) + 1).toNat), aI (h 22 0 ((i : Int) + 2).toNat)] _ = _ := r1
    have tc := thrown_c (lv + 84) h2
    rw [r3] at tc
    have wr := wb_reaches (lv + 83) (h 22 0 ((i : Int) + 1).toNat) (h 22 0 ((i : Int) + 2).toNat) h h1 e c1 hT
    obtain ⟨q2, q7⟩ := K_th c1 (Kh_self h)
    refine ⟨1, h2, aI (t2 e : Int), aI b, by omega, ⟨I2, Z_ri r1 (Z_th c1 z), fun j => k1 j, k2⟩, ?_⟩
    generalize t2 e = te at *
    have ht0 : ¬ (te : Int) = 0 := by omega
    simp (disch := omega) only [x_1, x_7_4_I, x_7_4_A, x_7_4_U, x_61, x_4_4, x_6_0, x_54, x_12, x_66, x_53, x_17, x_6_1, x_11, x_79_6_11_d0, x_79_6_11_d1, x_79_6_11_d2, x_79_6_11_d3, x_79_6_11_d4, x_6_2, x_79_6_12_d0, x_79_6_12_d1, x_79_6_12_d2, x_79_6_12_d3, x_79_6_12_d4, x_62, x_85, x_79_2_11_d0, x_79_2_11_d1, x_79_2_11_d2, x_79_2_11_d3, x_79_2_11_d4, x_79_2_12_d0, x_79_2_12_d1, x_79_2_12_d2, x_79_2_12_d3, x_79_2_12_d4, x_6_3, x_80_2_d0, x_80_2_d1, x_80_2_d2, x_80_2_d3, x_80_2_d4, x_7_5_I, x_7_5_A, x_7_5_U, x_79_1_12_d0, x_79_1_12_d1, x_79_1_12_d2, x_79_1_12_d3, x_79_1_12_d4, x_7_6_I, x_7_6_A, x_7_6_U, x_4_5, x_69, x_42, x_4_6, x_23, x_32, x_68, x_60, x_79_1_11_d0, x_79_1_11_d1, x_79_1_11_d2, x_79_1_11_d3, x_79_1_11_d4, x_80_4_d0, x_80_4_d1, x_80_4_d2, x_80_4_d3, x_80_4_d4, x_79_3_12_d0, x_79_3_12_d1, x_79_3_12_d2, x_79_3_12_d3, x_79_3_12_d4, x_2, x_80_3_d0, x_80_3_d1, x_80_3_d2, x_80_3_d3, x_80_3_d4, x_80_5_d0, x_80_5_d1, x_80_5_d2, x_80_5_d3, x_80_5_d4, x_79_4_12_d0, x_79_4_12_d1, x_79_4_12_d2, x_79_4_12_d3, x_79_4_12_d4, x_10_4_I, x_10_4_A, x_10_4_U, cb_ri, cb_rl, cb_rv, cb_th, cb_ite, ps_s, ps_n, u_368_722, u_368_770, u_368_787, o1, o2, o3, o4, o5, wr, cb_r1, r1, tc, q2, ht0, Int.reduceEq, Int.reduceLT, Int.reduceLE, reduceIte, Int.reduceAdd, Int.reduceSub, Int.reduceMul, Int.reduceNeg, Int.reduceToNat, Bool.false_eq_true, eq_self, if_pos, if_neg]
theorem lw_turn (lv i H N : Nat) (h : Hp) (I : INV h H N) (z : Zh h) (hb : h 27 0 0 ≤ 3072) (hi : (i : Int) + 6 ≤ h 27 0 0) : STEP lv 790 i h := by
  intro v5 v6
  obtain ⟨o1, o2, o3, o4, o5⟩ := ob_i _ hb hi
  rcases (ag_turn (lv + 4) (lv + 5) H N (h 22 0 ((i : Int) + 1).toNat) h I) with ⟨v, h1, c1, h2, r1, r3, r5, I2, k1, k2⟩ | ⟨e, h1, c1, hT, b, h2, r1, r3, I2, k1, k2⟩
  · have c1 : cl (lv + 84) _ _ _ = _ := c1
    have r1 : cl (lv + 85) 239 [aA 12 0, aI (h 22 0 ((i : Int) + 1).toNat)] _ = _ := r1
    have tc := thrown_c (lv + 84) h2
    rw [r3] at tc
    have wr := wa_turn (lv + 83) (h 22 0 ((i : Int) + 1).toNat) h h1 v c1
    obtain ⟨q2, q7⟩ := Kh_o (t := 25) (k := 0) (j := 0) (v := v) (K_ri c1 (Kh_self h)) (by omega)
    refine ⟨0, h2, aI 0, aI v, by omega, ⟨I2, Z_ri r1 (Zh_o (Z_ri c1 z) (by omega)), fun j => k1 j, k2⟩, ?_⟩
    rw [addc_0]
    generalize hset h1 25 0 0 v = g1 at *
    simp (disch := omega) only [x_1, x_7_4_I, x_7_4_A, x_7_4_U, x_61, x_4_4, x_6_0, x_54, x_12, x_66, x_53, x_17, x_6_1, x_11, x_79_6_11_d0, x_79_6_11_d1, x_79_6_11_d2, x_79_6_11_d3, x_79_6_11_d4, x_6_2, x_79_6_12_d0, x_79_6_12_d1, x_79_6_12_d2, x_79_6_12_d3, x_79_6_12_d4, x_62, x_85, x_79_2_11_d0, x_79_2_11_d1, x_79_2_11_d2, x_79_2_11_d3, x_79_2_11_d4, x_79_2_12_d0, x_79_2_12_d1, x_79_2_12_d2, x_79_2_12_d3, x_79_2_12_d4, x_6_3, x_80_2_d0, x_80_2_d1, x_80_2_d2, x_80_2_d3, x_80_2_d4, x_7_5_I, x_7_5_A, x_7_5_U, x_79_1_12_d0, x_79_1_12_d1, x_79_1_12_d2, x_79_1_12_d3, x_79_1_12_d4, x_7_6_I, x_7_6_A, x_7_6_U, x_4_5, x_69, x_42, x_4_6, x_23, x_32, x_68, x_60, x_79_1_11_d0, x_79_1_11_d1, x_79_1_11_d2, x_79_1_11_d3, x_79_1_11_d4, x_80_4_d0, x_80_4_d1, x_80_4_d2, x_80_4_d3, x_80_4_d4, x_79_3_12_d0, x_79_3_12_d1, x_79_3_12_d2, x_79_3_12_d3, x_79_3_12_d4, x_2, x_80_3_d0, x_80_3_d1, x_80_3_d2, x_80_3_d3, x_80_3_d4, x_80_5_d0, x_80_5_d1, x_80_5_d2, x_80_5_d3, x_80_5_d4, x_79_4_12_d0, x_79_4_12_d1, x_79_4_12_d2, x_79_4_12_d3, x_79_4_12_d4, x_10_4_I, x_10_4_A, x_10_4_U, cb_ri, cb_rl, cb_rv, cb_th, cb_ite, ps_s, ps_n, u_368_790, u_368_826, u_368_843, o1, o2, o3, o4, o5, wr, r1, tc, r5, q2, jc_self, Int.reduceEq, Int.reduceLT, Int.reduceLE, reduceIte, Int.reduceAdd, Int.reduceSub, Int.reduceMul, Int.reduceNeg, Int.reduceToNat, Bool.false_eq_true, eq_self, if_pos, if_neg]
  · have c1 : cl (lv + 84) _ _ _ = _ := c1
    have r1 : cl (lv + 85) 239 [aA 12 0, aI (h 22 0 ((i : Int) + 1).toNat)] _ = _ := r1
    have tc := thrown_c (lv + 84) h2
    rw [r3] at tc
    have wr := wb_turn (lv + 83) (h 22 0 ((i : Int) + 1).toNat) h h1 e c1 hT
    obtain ⟨q2, q7⟩ := K_th c1 (Kh_self h)
    refine ⟨1, h2, aI (t0 e : Int), aI b, by omega, ⟨I2, Z_ri r1 (Z_th c1 z), fun j => k1 j, k2⟩, ?_⟩
    generalize t0 e = te at *
    have ht0 : ¬ (te : Int) = 0 := by omega
    simp (disch := omega) only [x_1, x_7_4_I, x_7_4_A, x_7_4_U, x_61, x_4_4, x_6_0, x_54, x_12, x_66, x_53, x_17, x_6_1, x_11, x_79_6_11_d0, x_79_6_11_d1, x_79_6_11_d2, x_79_6_11_d3, x_79_6_11_d4, x_6_2, x_79_6_12_d0, x_79_6_12_d1, x_79_6_12_d2, x_79_6_12_d3, x_79_6_12_d4, x_62, x_85, x_79_2_11_d0, x_79_2_11_d1, x_79_2_11_d2, x_79_2_11_d3, x_79_2_11_d4, x_79_2_12_d0, x_79_2_12_d1, x_79_2_12_d2, x_79_2_12_d3, x_79_2_12_d4, x_6_3, x_80_2_d0, x_80_2_d1, x_80_2_d2, x_80_2_d3, x_80_2_d4, x_7_5_I, x_7_5_A, x_7_5_U, x_79_1_12_d0, x_79_1_12_d1, x_79_1_12_d2, x_79_1_12_d3, x_79_1_12_d4, x_7_6_I, x_7_6_A, x_7_6_U, x_4_5, x_69, x_42, x_4_6, x_23, x_32, x_68, x_60, x_79_1_11_d0, x_79_1_11_d1, x_79_1_11_d2, x_79_1_11_d3, x_79_1_11_d4, x_80_4_d0, x_80_4_d1, x_80_4_d2, x_80_4_d3, x_80_4_d4, x_79_3_12_d0, x_79_3_12_d1, x_79_3_12_d2, x_79_3_12_d3, x_79_3_12_d4, x_2, x_80_3_d0, x_80_3_d1, x_80_3_d2, x_80_3_d3, x_80_3_d4, x_80_5_d0, x_80_5_d1, x_80_5_d2, x_80_5_d3, x_80_5_d4, x_79_4_12_d0, x_79_4_12_d1, x_79_4_12_d2, x_79_4_12_d3, x_79_4_12_d4, x_10_4_I, x_10_4_A, x_10_4_U, cb_ri, cb_rl, cb_rv, cb_th, cb_ite, ps_s, ps_n, u_368_790, u_368_826, u_368_843, o1, o2, o3, o4, o5, wr, cb_r1, r1, tc, q2, ht0, Int.reduceEq, Int.reduceLT, Int.reduceLE, reduceIte, Int.reduceAdd, Int.reduceSub, Int.reduceMul, Int.reduceNeg, Int.reduceToNat, Bool.false_eq_true, eq_self, if_pos, if_neg]
theorem lw_put (lv i H N : Nat) (h : Hp) (I : INV h H N) (z : Zh h) (hb : h 27 0 0 ≤ 3072) (hi : (i : Int) + 6 ≤ h 27 0 0) : STEP lv 846 i h := by
  intro v5 v6
  obtain ⟨o1, o2, o3, o4, o5⟩ := ob_i _ hb hi
  rcases (ag_put (lv + 4) (lv + 5) H N (h 22 0 ((i : Int) + 1).toNat) (h 22 0 ((i : Int) + 2).toNat) h I) with ⟨v, h1, c1, h2, r1, r3, r5, I2, k1, k2⟩ | ⟨e, h1, c1, hT, b, h2, r1, r3, I2, k1, k2⟩
  · have c1 : cl (lv + 84) _ _ _ = _ := c1
    have r1 : cl (lv + 85) 241 [aA 12 0, aI (h 22 0 ((i : Int) + 1).toNat), aI (h 22 0 ((i : Int) + 2).toNat)] _ = _ := r1
    have tc := thrown_c (lv + 84) h2
    rw [r3] at tc
    have wr := wa_put (lv + 83) (h 22 0 ((i : Int) + 1).toNat) (h 22 0 ((i : Int) + 2).toNat) h h1 v c1
    obtain ⟨q2, q7⟩ := Kh_o (t := 25) (k := 0) (j := 0) (v := v) (K_ri c1 (Kh_self h)) (by omega)
    refine ⟨0, h2, aI 0, aI v, by omega, ⟨I2, Z_ri r1 (Zh_o (Z_ri c1 z) (by omega)), fun j => k1 j, k2⟩, ?_⟩
    rw [addc_0]
    generalize hset h1 25 0 0 v = g1 at *
    simp (disch := omega) only [x_1, x_7_4_I, x_7_4_A, x_7_4_U, x_61, x_4_4, x_6_0, x_54, x_12, x_66, x_53, x_17, x_6_1, x_11, x_79_6_11_d0, x_79_6_11_d1, x_79_6_11_d2, x_79_6_11_d3, x_79_6_11_d4, x_6_2, x_79_6_12_d0, x_79_6_12_d1, x_79_6_12_d2, x_79_6_12_d3, x_79_6_12_d4, x_62, x_85, x_79_2_11_d0, x_79_2_11_d1, x_79_2_11_d2, x_79_2_11_d3, x_79_2_11_d4, x_79_2_12_d0, x_79_2_12_d1, x_79_2_12_d2, x_79_2_12_d3, x_79_2_12_d4, x_6_3, x_80_2_d0, x_80_2_d1, x_80_2_d2, x_80_2_d3, x_80_2_d4, x_7_5_I, x_7_5_A, x_7_5_U, x_79_1_12_d0, x_79_1_12_d1, x_79_1_12_d2, x_79_1_12_d3, x_79_1_12_d4, x_7_6_I, x_7_6_A, x_7_6_U, x_4_5, x_69, x_42, x_4_6, x_23, x_32, x_68, x_60, x_79_1_11_d0, x_79_1_11_d1, x_79_1_11_d2, x_79_1_11_d3, x_79_1_11_d4, x_80_4_d0, x_80_4_d1, x_80_4_d2, x_80_4_d3, x_80_4_d4, x_79_3_12_d0, x_79_3_12_d1, x_79_3_12_d2, x_79_3_12_d3, x_79_3_12_d4, x_2, x_80_3_d0, x_80_3_d1, x_80_3_d2, x_80_3_d3, x_80_3_d4, x_80_5_d0, x_80_5_d1, x_80_5_d2, x_80_5_d3, x_80_5_d4, x_79_4_12_d0, x_79_4_12_d1, x_79_4_12_d2, x_79_4_12_d3, x_79_4_12_d4, x_10_4_I, x_10_4_A, x_10_4_U, cb_ri, cb_rl, cb_rv, cb_th, cb_ite, ps_s, ps_n, u_368_846, u_368_894, u_368_911, o1, o2, o3, o4, o5, wr, r1, tc, r5, q2, jc_self, Int.reduceEq, Int.reduceLT, Int.reduceLE, reduceIte, Int.reduceAdd, Int.reduceSub, Int.reduceMul, Int.reduceNeg, Int.reduceToNat, Bool.false_eq_true, eq_self, if_pos, if_neg]
  · have c1 : cl (lv + 84) _ _ _ = _ := c1
    have r1 : cl (lv + 85) 241 [aA 12 0, aI (h 22 0 ((i : Int) + 1).toNat), aI (h 22 0 ((i : Int) + 2).toNat)] _ = _ := r1
    have tc := thrown_c (lv + 84) h2
    rw [r3] at tc
    have wr := wb_put (lv + 83) (h 22 0 ((i : Int) + 1).toNat) (h 22 0 ((i : Int) + 2).toNat) h h1 e c1 hT
    obtain ⟨q2, q7⟩ := K_th c1 (Kh_self h)
    refine ⟨1, h2, aI (t2 e : Int), aI b, by omega, ⟨I2, Z_ri r1 (Z_th c1 z), fun j => k1 j, k2⟩, ?_⟩
    generalize t2 e = te at *
    have ht0 : ¬ (te : Int) = 0 := by omega
    simp (disch := omega) only [x_1, x_7_4_I, x_7_4_A, x_7_4_U, x_61, x_4_4, x_6_0, x_54, x_12, x_66, x_53, x_17, x_6_1, x_11, x_79_6_11_d0, x_79_6_11_d1, x_79_6_11_d2, x_79_6_11_d3, x_79_6_11_d4, x_6_2, x_79_6_12_d0, x_79_6_12_d1, x_79_6_12_d2, x_79_6_12_d3, x_79_6_12_d4, x_62, x_85, x_79_2_11_d0, x_79_2_11_d1, x_79_2_11_d2, x_79_2_11_d3, x_79_2_11_d4, x_79_2_12_d0, x_79_2_12_d1, x_79_2_12_d2, x_79_2_12_d3, x_79_2_12_d4, x_6_3, x_80_2_d0, x_80_2_d1, x_80_2_d2, x_80_2_d3, x_80_2_d4, x_7_5_I, x_7_5_A, x_7_5_U, x_79_1_12_d0, x_79_1_12_d1, x_79_1_12_d2, x_79_1_12_d3, x_79_1_12_d4, x_7_6_I, x_7_6_A, x_7_6_U, x_4_5, x_69, x_42, x_4_6, x_23, x_32, x_68, x_60, x_79_1_11_d0, x_79_1_11_d1, x_79_1_11_d2, x_79_1_11_d3, x_79_1_11_d4, x_80_4_d0, x_80_4_d1, x_80_4_d2, x_80_4_d3, x_80_4_d4, x_79_3_12_d0, x_79_3_12_d1, x_79_3_12_d2, x_79_3_12_d3, x_79_3_12_d4, x_2, x_80_3_d0, x_80_3_d1, x_80_3_d2, x_80_3_d3, x_80_3_d4, x_80_5_d0, x_80_5_d1, x_80_5_d2, x_80_5_d3, x_80_5_d4, x_79_4_12_d0, x_79_4_12_d1, x_79_4_12_d2, x_79_4_12_d3, x_79_4_12_d4, x_10_4_I, x_10_4_A, x_10_4_U, cb_ri, cb_rl, cb_rv, cb_th, cb_ite, ps_s, ps_n, u_368_846, u_368_894, u_368_911, o1, o2, o3, o4, o5, wr, cb_r1, r1, tc, q2, ht0, Int.reduceEq, Int.reduceLT, Int.reduceLE, reduceIte, Int.reduceAdd, Int.reduceSub, Int.reduceMul, Int.reduceNeg, Int.reduceToNat, Bool.false_eq_true, eq_self, if_pos, if_neg]
theorem lw_rest (lv i H N : Nat) (h : Hp) (I : INV h H N) (z : Zh h) (hb : h 27 0 0 ≤ 3072) (hi : (i : Int) + 6 ≤ h 27 0 0) : STEP lv 914 i h := by
  intro v5 v6
  obtain ⟨o1, o2, o3, o4, o5⟩ := ob_i _ hb hi
  rcases (ag_rest (lv + 4) (lv + 5) H N (h 22 0 ((i : Int) + 1).toNat) h I) with ⟨v, h1, c1, h2, r1, r3, r5, I2, k1, k2⟩ | ⟨e, h1, c1, hT, b, h2, r1, r3, I2, k1, k2⟩
  · have c1 : cl (lv + 84) _ _ _ = _ := c1
    have r1 : cl (lv + 85) 242 [aA 12 0, aI (h 22 0 ((i : Int) + 1).toNat)] _ = _ := r1
    have tc := thrown_c (lv + 84) h2
    rw [r3] at tc
    have wr := wa_rest (lv + 83) (h 22 0 ((i : Int) + 1).toNat) h h1 v c1
    obtain ⟨q2, q7⟩ := Kh_o (t := 25) (k := 0) (j := 0) (v := v) (K_ri c1 (Kh_self h)) (by omega)
    refine ⟨0, h2, aI 0, aI v, by omega, ⟨I2, Z_ri r1 (Zh_o (Z_ri c1 z) (by omega)), fun j => k1 j, k2⟩, ?_⟩
    rw [addc_0]
    generalize hset h1 25 0 0 v = g1 at *
    simp (disch := omega) only [x_1, x_7_4_I, x_7_4_A, x_7_4_U, x_61, x_4_4, x_6_0, x_54, x_12, x_66, x_53, x_17, x_6_1, x_11, x_79_6_11_d0, x_79_6_11_d1, x_79_6_11_d2, x_79_6_11_d3, x_79_6_11_d4, x_6_2, x_79_6_12_d0, x_79_6_12_d1, x_79_6_12_d2, x_79_6_12_d3, x_79_6_12_d4, x_62, x_85, x_79_2_11_d0, x_79_2_11_d1, x_79_2_11_d2, x_79_2_11_d3, x_79_2_11_d4, x_79_2_12_d0, x_79_2_12_d1, x_79_2_12_d2, x_79_2_12_d3, x_79_2_12_d4, x_6_3, x_80_2_d0, x_80_2_d1, x_80_2_d2, x_80_2_d3, x_80_2_d4, x_7_5_I, x_7_5_A, x_7_5_U, x_79_1_12_d0, x_79_1_12_d1, x_79_1_12_d2, x_79_1_12_d3, x_79_1_12_d4, x_7_6_I, x_7_6_A, x_7_6_U, x_4_5, x_69, x_42, x_4_6, x_23, x_32, x_68, x_60, x_79_1_11_d0, x_79_1_11_d1, x_79_1_11_d2, x_79_1_11_d3, x_79_1_11_d4, x_80_4_d0, x_80_4_d1, x_80_4_d2, x_80_4_d3, x_80_4_d4, x_79_3_12_d0, x_79_3_12_d1, x_79_3_12_d2, x_79_3_12_d3, x_79_3_12_d4, x_2, x_80_3_d0, x_80_3_d1, x_80_3_d2, x_80_3_d3, x_80_3_d4, x_80_5_d0, x_80_5_d1, x_80_5_d2, x_80_5_d3, x_80_5_d4, x_79_4_12_d0, x_79_4_12_d1, x_79_4_12_d2, x_79_4_12_d3, x_79_4_12_d4, x_10_4_I, x_10_4_A, x_10_4_U, cb_ri, cb_rl, cb_rv, cb_th, cb_ite, ps_s, ps_n, u_368_914, u_368_950, u_368_967, o1, o2, o3, o4, o5, wr, r1, tc, r5, q2, jc_self, Int.reduceEq, Int.reduceLT, Int.reduceLE, reduceIte, Int.reduceAdd, Int.reduceSub, Int.reduceMul, Int.reduceNeg, Int.reduceToNat, Bool.false_eq_true, eq_self, if_pos, if_neg]
  · have c1 : cl (lv + 84) _ _ _ = _ := c1
    have r1 : cl (lv + 85) 242 [aA 12 0, aI (h 22 0 ((i : Int) + 1).toNat)] _ = _ := r1
    have tc := thrown_c (lv + 84) h2
    rw [r3] at tc
    have wr := wb_rest (lv + 83) (h 22 0 ((i : Int) + 1).toNat) h h1 e c1 hT
    obtain ⟨q2, q7⟩ := K_th c1 (Kh_self h)
    refine ⟨1, h2, aI (t2 e : Int), aI b, by omega, ⟨I2, Z_ri r1 (Z_th c1 z), fun j => k1 j, k2⟩, ?_⟩
    generalize t2 e = te at *
    have ht0 : ¬ (te : Int) = 0 := by omega
    simp (disch := omega) only [x_1, x_7_4_I, x_7_4_A, x_7_4_U, x_61, x_4_4, x_6_0, x_54, x_12, x_66, x_53, x_17, x_6_1, x_11, x_79_6_11_d0, x_79_6_11_d1, x_79_6_11_d2, x_79_6_11_d3, x_79_6_11_d4, x_6_2, x_79_6_12_d0, x_79_6_12_d1, x_79_6_12_d2, x_79_6_12_d3, x_79_6_12_d4, x_62, x_85, x_79_2_11_d0, x_79_2_11_d1, x_79_2_11_d2, x_79_2_11_d3, x_79_2_11_d4, x_79_2_12_d0, x_79_2_12_d1, x_79_2_12_d2, x_79_2_12_d3, x_79_2_12_d4, x_6_3, x_80_2_d0, x_80_2_d1, x_80_2_d2, x_80_2_d3, x_80_2_d4, x_7_5_I, x_7_5_A, x_7_5_U, x_79_1_12_d0, x_79_1_12_d1, x_79_1_12_d2, x_79_1_12_d3, x_79_1_12_d4, x_7_6_I, x_7_6_A, x_7_6_U, x_4_5, x_69, x_42, x_4_6, x_23, x_32, x_68, x_60, x_79_1_11_d0, x_79_1_11_d1, x_79_1_11_d2, x_79_1_11_d3, x_79_1_11_d4, x_80_4_d0, x_80_4_d1, x_80_4_d2, x_80_4_d3, x_80_4_d4, x_79_3_12_d0, x_79_3_12_d1, x_79_3_12_d2, x_79_3_12_d3, x_79_3_12_d4, x_2, x_80_3_d0, x_80_3_d1, x_80_3_d2, x_80_3_d3, x_80_3_d4, x_80_5_d0, x_80_5_d1, x_80_5_d2, x_80_5_d3, x_80_5_d4, x_79_4_12_d0, x_79_4_12_d1, x_79_4_12_d2, x_79_4_12_d3, x_79_4_12_d4, x_10_4_I, x_10_4_A, x_10_4_U, cb_ri, cb_rl, cb_rv, cb_th, cb_ite, ps_s, ps_n, u_368_914, u_368_950, u_368_967, o1, o2, o3, o4, o5, wr, cb_r1, r1, tc, q2, ht0, Int.reduceEq, Int.reduceLT, Int.reduceLE, reduceIte, Int.reduceAdd, Int.reduceSub, Int.reduceMul, Int.reduceNeg, Int.reduceToNat, Bool.false_eq_true, eq_self, if_pos, if_neg]
theorem lw_bind (lv i H N : Nat) (h : Hp) (I : INV h H N) (z : Zh h) (hb : h 27 0 0 ≤ 3072) (hi : (i : Int) + 6 ≤ h 27 0 0) : STEP lv 970 i h := by
  intro v5 v6
  obtain ⟨o1, o2, o3, o4, o5⟩ := ob_i _ hb hi
  by_cases cx : (h 22 0 ((i : Int) + 2).toNat) = 0
  · rcases (ag_bind (lv + 4) (lv + 5) H N (h 22 0 ((i : Int) + 1).toNat) false h I).1 with ⟨v, h1, c1, h2, r1, r3, r5, I2, k1, k2⟩ | ⟨e, h1, c1, hT, b, h2, r1, r3, I2, k1, k2⟩
    · have c1 : cl (lv + 84) _ _ _ = _ := c1
      have r1 : cl (lv + 85) 243 [aA 12 0, aI (h 22 0 ((i : Int) + 1).toNat), aI (0 : Int)] _ = _ := r1
      have tc := thrown_c (lv + 84) h2
      rw [r3] at tc
      have hv := (ag_bind (lv + 4) (lv + 5) H N (h 22 0 ((i : Int) + 1).toNat) false h I).2 v h1 c1
      have wr := wa_bind (lv + 83) (h 22 0 ((i : Int) + 1).toNat) (0 : Int) h h1 v c1 hv
      obtain ⟨q2, q7⟩ := Kh_o (t := 25) (k := 0) (j := 0) (v := v) (K_ri c1 (Kh_self h)) (by omega)
      refine ⟨0, h2, aI 0, aI v, by omega, ⟨I2, Z_ri r1 (Zh_o (Z_ri c1 z) (by omega)), fun j => k1 j, k2⟩, ?_⟩
      rw [addc_0]
      generalize hset h1 25 0 0 v = g1 at *
      rcases hv with rfl | rfl
      · simp (disch := omega) only [x_1, x_7_4_I, x_7_4_A, x_7_4_U, x_61, x_4_4, x_6_0, x_54, x_12, x_66, x_53, x_17, x_6_1, x_11, x_79_6_11_d0, x_79_6_11_d1, x_79_6_11_d2, x_79_6_11_d3, x_79_6_11_d4, x_6_2, x_79_6_12_d0, x_79_6_12_d1, x_79_6_12_d2, x_79_6_12_d3, x_79_6_12_d4, x_62, x_85, x_79_2_11_d0, x_79_2_11_d1, x_79_2_11_d2, x_79_2_11_d3, x_79_2_11_d4, x_79_2_12_d0, x_79_2_12_d1, x_79_2_12_d2, x_79_2_12_d3, x_79_2_12_d4, x_6_3, x_80_2_d0, x_80_2_d1, x_80_2_d2, x_80_2_d3, x_80_2_d4, x_7_5_I, x_7_5_A, x_7_5_U, x_79_1_12_d0, x_79_1_12_d1, x_79_1_12_d2, x_79_1_12_d3, x_79_1_12_d4, x_7_6_I, x_7_6_A, x_7_6_U, x_4_5, x_69, x_42, x_4_6, x_23, x_32, x_68, x_60, x_79_1_11_d0, x_79_1_11_d1, x_79_1_11_d2, x_79_1_11_d3, x_79_1_11_d4, x_80_4_d0, x_80_4_d1, x_80_4_d2, x_80_4_d3, x_80_4_d4, x_79_3_12_d0, x_79_3_12_d1, x_79_3_12_d2, x_79_3_12_d3, x_79_3_12_d4, x_2, x_80_3_d0, x_80_3_d1, x_80_3_d2, x_80_3_d3, x_80_3_d4, x_80_5_d0, x_80_5_d1, x_80_5_d2, x_80_5_d3, x_80_5_d4, x_79_4_12_d0, x_79_4_12_d1, x_79_4_12_d2, x_79_4_12_d3, x_79_4_12_d4, x_10_4_I, x_10_4_A, x_10_4_U, cb_ri, cb_rl, cb_rv, cb_th, cb_ite, ps_s, ps_n, u_368_970, u_368_990, u_368_991, u_368_1017, u_368_1018, u_368_1034, u_368_1051, u_368_1052, u_368_1058, o1, o2, o3, o4, o5, cx, wr, r1, tc, r5, q2, jc_self, Int.reduceEq, Int.reduceLT, Int.reduceLE, reduceIte, Int.reduceAdd, Int.reduceSub, Int.reduceMul, Int.reduceNeg, Int.reduceToNat, Bool.false_eq_true, eq_self, if_pos, if_neg]
      · simp (disch := omega) only [x_1, x_7_4_I, x_7_4_A, x_7_4_U, x_61, x_4_4, x_6_0, x_54, x_12, x_66, x_53, x_17, x_6_1, x_11, x_79_6_11_d0, x_79_6_11_d1, x_79_6_11_d2, x_79_6_11_d3, x_79_6_11_d4, x_6_2, x_79_6_12_d0, x_79_6_12_d1, x_79_6_12_d2, x_79_6_12_d3, x_79_6_12_d4, x_62, x_85, x_79_2_11_d0, x_79_2_11_d1, x_79_2_11_d2, x_79_2_11_d3, x_79_2_11_d4, x_79_2_12_d0, x_79_2_12_d1, x_79_2_12_d2, x_79_2_12_d3, x_79_2_12_d4, x_6_3, x_80_2_d0, x_80_2_d1, x_80_2_d2, x_80_2_d3, x_80_2_d4, x_7_5_I, x_7_5_A, x_7_5_U, x_79_1_12_d0, x_79_1_12_d1, x_79_1_12_d2, x_79_1_12_d3, x_79_1_12_d4, x_7_6_I, x_7_6_A, x_7_6_U, x_4_5, x_69, x_42, x_4_6, x_23, x_32, x_68, x_60, x_79_1_11_d0, x_79_1_11_d1, x_79_1_11_d2, x_79_1_11_d3, x_79_1_11_d4, x_80_4_d0, x_80_4_d1, x_80_4_d2, x_80_4_d3, x_80_4_d4, x_79_3_12_d0, x_79_3_12_d1, x_79_3_12_d2, x_79_3_12_d3, x_79_3_12_d4, x_2, x_80_3_d0, x_80_3_d1, x_80_3_d2, x_80_3_d3, x_80_3_d4, x_80_5_d0, x_80_5_d1, x_80_5_d2, x_80_5_d3, x_80_5_d4, x_79_4_12_d0, x_79_4_12_d1, x_79_4_12_d2, x_79_4_12_d3, x_79_4_12_d4, x_10_4_I, x_10_4_A, x_10_4_U, cb_ri, cb_rl, cb_rv, cb_th, cb_ite, ps_s, ps_n, u_368_970, u_368_990, u_368_991, u_368_1017, u_368_1018, u_368_1034, u_368_1051, u_368_1052, u_368_1058, o1, o2, o3, o4, o5, cx, wr, r1, tc, r5, q2, jc_self, Int.reduceEq, Int.reduceLT, Int.reduceLE, reduceIte, Int.reduceAdd, Int.reduceSub, Int.reduceMul, Int.reduceNeg, Int.reduceToNat, Bool.false_eq_true, eq_self, if_pos, if_neg]
    · have c1 : cl (lv + 84) _ _ _ = _ := c1
      have r1 : cl (lv + 85) 243 [aA 12 0, aI (h 22 0 ((i : Int) + 1).toNat), aI (0 : Int)] _ = _ := r1
      have tc := thrown_c (lv + 84) h2
      rw [r3] at tc
      have wr := wb_bind (lv + 83) (h 22 0 ((i : Int) + 1).toNat) (0 : Int) h h1 e c1 hT
      obtain ⟨q2, q7⟩ := K_th c1 (Kh_self h)
      refine ⟨1, h2, aI (t2 e : Int), aI b, by omega, ⟨I2, Z_ri r1 (Z_th c1 z), fun j => k1 j, k2⟩, ?_⟩
      generalize t2 e = te at *
      have ht0 : ¬ (te : Int) = 0 := by omega
      simp (disch := omega) only [x_1, x_7_4_I, x_7_4_A, x_7_4_U, x_61, x_4_4, x_6_0, x_54, x_12, x_66, x_53, x_17, x_6_1, x_11, x_79_6_11_d0, x_79_6_11_d1, x_79_6_11_d2, x_79_6_11_d3, x_79_6_11_d4, x_6_2, x_79_6_12_d0, x_79_6_12_d1, x_79_6_12_d2, x_79_6_12_d3, x_79_6_12_d4, x_62, x_85, x_79_2_11_d0, x_79_2_11_d1, x_79_2_11_d2, x_79_2_11_d3, x_79_2_11_d4, x_79_2_12_d0, x_79_2_12_d1, x_79_2_12_d2, x_79_2_12_d3, x_79_2_12_d4, x_6_3, x_80_2_d0, x_80_2_d1, x_80_2_d2, x_80_2_d3, x_80_2_d4, x_7_5_I, x_7_5_A, x_7_5_U, x_79_1_12_d0, x_79_1_12_d1, x_79_1_12_d2, x_79_1_12_d3, x_79_1_12_d4, x_7_6_I, x_7_6_A, x_7_6_U, x_4_5, x_69, x_42, x_4_6, x_23, x_32, x_68, x_60, x_79_1_11_d0, x_79_1_11_d1, x_79_1_11_d2, x_79_1_11_d3, x_79_1_11_d4, x_80_4_d0, x_80_4_d1, x_80_4_d2, x_80_4_d3, x_80_4_d4, x_79_3_12_d0, x_79_3_12_d1, x_79_3_12_d2, x_79_3_12_d3, x_79_3_12_d4, x_2, x_80_3_d0, x_80_3_d1, x_80_3_d2, x_80_3_d3, x_80_3_d4, x_80_5_d0, x_80_5_d1, x_80_5_d2, x_80_5_d3, x_80_5_d4, x_79_4_12_d0, x_79_4_12_d1, x_79_4_12_d2, x_79_4_12_d3, x_79_4_12_d4, x_10_4_I, x_10_4_A, x_10_4_U, cb_ri, cb_rl, cb_rv, cb_th, cb_ite, ps_s, ps_n, u_368_970, u_368_990, u_368_991, u_368_1017, u_368_1018, u_368_1034, u_368_1051, u_368_1052, u_368_1058, o1, o2, o3, o4, o5, cx, wr, cb_r1, r1, tc, q2, ht0, Int.reduceEq, Int.reduceLT, Int.reduceLE, reduceIte, Int.reduceAdd, Int.reduceSub, Int.reduceMul, Int.reduceNeg, Int.reduceToNat, Bool.false_eq_true, eq_self, if_pos, if_neg]
  · rcases (ag_bind (lv + 4) (lv + 5) H N (h 22 0 ((i : Int) + 1).toNat) true h I).1 with ⟨v, h1, c1, h2, r1, r3, r5, I2, k1, k2⟩ | ⟨e, h1, c1, hT, b, h2, r1, r3, I2, k1, k2⟩
    · have c1 : cl (lv + 84) _ _ _ = _ := c1
      have r1 : cl (lv + 85) 243 [aA 12 0, aI (h 22 0 ((i : Int) + 1).toNat), aI (1 : Int)] _ = _ := r1
      have tc := thrown_c (lv + 84) h2
      rw [r3] at tc
      have hv := (ag_bind (lv + 4) (lv + 5) H N (h 22 0 ((i : Int) + 1).toNat) true h I).2 v h1 c1
      have wr := wa_bind (lv + 83) (h 22 0 ((i : Int) + 1).toNat) (1 : Int) h h1 v c1 hv
      obtain ⟨q2, q7⟩ := Kh_o (t := 25) (k := 0) (j := 0) (v := v) (K_ri c1 (Kh_self h)) (by omega)
      refine ⟨0, h2, aI 0, aI v, by omega, ⟨I2, Z_ri r1 (Zh_o (Z_ri c1 z) (by omega)), fun j => k1 j, k2⟩, ?_⟩
      rw [addc_0]
      generalize hset h1 25 0 0 v = g1 at *
      rcases hv with rfl | rfl
      · simp (disch := omega) only [x_1, x_7_4_I, x_7_4_A, x_7_4_U, x_61, x_4_4, x_6_0, x_54, x_12, x_66, x_53, x_17, x_6_1, x_11, x_79_6_11_d0, x_79_6_11_d1, x_79_6_11_d2, x_79_6_11_d3, x_79_6_11_d4, x_6_2, x_79_6_12_d0, x_79_6_12_d1, x_79_6_12_d2, x_79_6_12_d3, x_79_6_12_d4, x_62, x_85, x_79_2_11_d0, x_79_2_11_d1, x_79_2_11_d2, x_79_2_11_d3, x_79_2_11_d4, x_79_2_12_d0, x_79_2_12_d1, x_79_2_12_d2, x_79_2_12_d3, x_79_2_12_d4, x_6_3, x_80_2_d0, x_80_2_d1, x_80_2_d2, x_80_2_d3, x_80_2_d4, x_7_5_I, x_7_5_A, x_7_5_U, x_79_1_12_d0, x_79_1_12_d1, x_79_1_12_d2, x_79_1_12_d3, x_79_1_12_d4, x_7_6_I, x_7_6_A, x_7_6_U, x_4_5, x_69, x_42, x_4_6, x_23, x_32, x_68, x_60, x_79_1_11_d0, x_79_1_11_d1, x_79_1_11_d2, x_79_1_11_d3, x_79_1_11_d4, x_80_4_d0, x_80_4_d1, x_80_4_d2, x_80_4_d3, x_80_4_d4, x_79_3_12_d0, x_79_3_12_d1, x_79_3_12_d2, x_79_3_12_d3, x_79_3_12_d4, x_2, x_80_3_d0, x_80_3_d1, x_80_3_d2, x_80_3_d3, x_80_3_d4, x_80_5_d0, x_80_5_d1, x_80_5_d2, x_80_5_d3, x_80_5_d4, x_79_4_12_d0, x_79_4_12_d1, x_79_4_12_d2, x_79_4_12_d3, x_79_4_12_d4, x_10_4_I, x_10_4_A, x_10_4_U, cb_ri, cb_rl, cb_rv, cb_th, cb_ite, ps_s, ps_n, u_368_970, u_368_990, u_368_991, u_368_1017, u_368_1018, u_368_1034, u_368_1051, u_368_1052, u_368_1058, o1, o2, o3, o4, o5, cx, wr, r1, tc, r5, q2, jc_self, Int.reduceEq, Int.reduceLT, Int.reduceLE, reduceIte, Int.reduceAdd, Int.reduceSub, Int.reduceMul, Int.reduceNeg, Int.reduceToNat, Bool.false_eq_true, eq_self, if_pos, if_neg]
      · simp (disch := omega) only [x_1, x_7_4_I, x_7_4_A, x_7_4_U, x_61, x_4_4, x_6_0, x_54, x_12, x_66, x_53, x_17, x_6_1, x_11, x_79_6_11_d0, x_79_6_11_d1, x_79_6_11_d2, x_79_6_11_d3, x_79_6_11_d4, x_6_2, x_79_6_12_d0, x_79_6_12_d1, x_79_6_12_d2, x_79_6_12_d3, x_79_6_12_d4, x_62, x_85, x_79_2_11_d0, x_79_2_11_d1, x_79_2_11_d2, x_79_2_11_d3, x_79_2_11_d4, x_79_2_12_d0, x_79_2_12_d1, x_79_2_12_d2, x_79_2_12_d3, x_79_2_12_d4, x_6_3, x_80_2_d0, x_80_2_d1, x_80_2_d2, x_80_2_d3, x_80_2_d4, x_7_5_I, x_7_5_A, x_7_5_U, x_79_1_12_d0, x_79_1_12_d1, x_79_1_12_d2, x_79_1_12_d3, x_79_1_12_d4, x_7_6_I, x_7_6_A, x_7_6_U, x_4_5, x_69, x_42, x_4_6, x_23, x_32, x_68, x_60, x_79_1_11_d0, x_79_1_11_d1, x_79_1_11_d2, x_79_1_11_d3, x_79_1_11_d4, x_80_4_d0, x_80_4_d1, x_80_4_d2, x_80_4_d3, x_80_4_d4, x_79_3_12_d0, x_79_3_12_d1, x_79_3_12_d2, x_79_3_12_d3, x_79_3_12_d4, x_2, x_80_3_d0, x_80_3_d1, x_80_3_d2, x_80_3_d3, x_80_3_d4, x_80_5_d0, x_80_5_d1, x_80_5_d2, x_80_5_d3, x_80_5_d4, x_79_4_12_d0, x_79_4_12_d1, x_79_4_12_d2, x_79_4_12_d3, x_79_4_12_d4, x_10_4_I, x_10_4_A, x_10_4_U, cb_ri, cb_rl, cb_rv, cb_th, cb_ite, ps_s, ps_n, u_368_970, u_368_990, u_368_991, u_368_1017, u_368_1018, u_368_1034, u_368_1051, u_368_1052, u_368_1058, o1, o2, o3, o4, o5, cx, wr, r1, tc, r5, q2, jc_self, Int.reduceEq, Int.reduceLT, Int.reduceLE, reduceIte, Int.reduceAdd, Int.reduceSub, Int.reduceMul, Int.reduceNeg, Int.reduceToNat, Bool.false_eq_true, eq_self, if_pos, if_neg]
    · have c1 : cl (lv + 84) _ _ _ = _ := c1
      have r1 : cl (lv + 85) 243 [aA 12 0, aI (h 22 0 ((i : Int) + 1).toNat), aI (1 : Int)] _ = _ := r1
      have tc := thrown_c (lv + 84) h2
      rw [r3] at tc
      have wr := wb_bind (lv + 83) (h 22 0 ((i : Int) + 1).toNat) (1 : Int) h h1 e c1 hT
      obtain ⟨q2, q7⟩ := K_th c1 (Kh_self h)
      refine ⟨1, h2, aI (t2 e : Int), aI b, by omega, ⟨I2, Z_ri r1 (Z_th c1 z), fun j => k1 j, k2⟩, ?_⟩
      generalize t2 e = te at *
      have ht0 : ¬ (te : Int) = 0 := by omega
      simp (disch := omega) only [x_1, x_7_4_I, x_7_4_A, x_7_4_U, x_61, x_4_4, x_6_0, x_54, x_12, x_66, x_53, x_17, x_6_1, x_11, x_79_6_11_d0, x_79_6_11_d1, x_79_6_11_d2, x_79_6_11_d3, x_79_6_11_d4, x_6_2, x_79_6_12_d0, x_79_6_12_d1, x_79_6_12_d2, x_79_6_12_d3, x_79_6_12_d4, x_62, x_85, x_79_2_11_d0, x_79_2_11_d1, x_79_2_11_d2, x_79_2_11_d3, x_79_2_11_d4, x_79_2_12_d0, x_79_2_12_d1, x_79_2_12_d2, x_79_2_12_d3, x_79_2_12_d4, x_6_3, x_80_2_d0, x_80_2_d1, x_80_2_d2, x_80_2_d3, x_80_2_d4, x_7_5_I, x_7_5_A, x_7_5_U, x_79_1_12_d0, x_79_1_12_d1, x_79_1_12_d2, x_79_1_12_d3, x_79_1_12_d4, x_7_6_I, x_7_6_A, x_7_6_U, x_4_5, x_69, x_42, x_4_6, x_23, x_32, x_68, x_60, x_79_1_11_d0, x_79_1_11_d1, x_79_1_11_d2, x_79_1_11_d3, x_79_1_11_d4, x_80_4_d0, x_80_4_d1, x_80_4_d2, x_80_4_d3, x_80_4_d4, x_79_3_12_d0, x_79_3_12_d1, x_79_3_12_d2, x_79_3_12_d3, x_79_3_12_d4, x_2, x_80_3_d0, x_80_3_d1, x_80_3_d2, x_80_3_d3, x_80_3_d4, x_80_5_d0, x_80_5_d1, x_80_5_d2, x_80_5_d3, x_80_5_d4, x_79_4_12_d0, x_79_4_12_d1, x_79_4_12_d2, x_79_4_12_d3, x_79_4_12_d4, x_10_4_I, x_10_4_A, x_10_4_U, cb_ri, cb_rl, cb_rv, cb_th, cb_ite, ps_s, ps_n, u_368_970, u_368_990, u_368_991, u_368_1017, u_368_1018, u_368_1034, u_368_1051, u_368_1052, u_368_1058, o1, o2, o3, o4, o5, cx, wr, cb_r1, r1, tc, q2, ht0, Int.reduceEq, Int.reduceLT, Int.reduceLE, reduceIte, Int.reduceAdd, Int.reduceSub, Int.reduceMul, Int.reduceNeg, Int.reduceToNat, Bool.false_eq_true, eq_self, if_pos, if_neg]
theorem lw_strike (lv i H N : Nat) (h : Hp) (I : INV h H N) (z : Zh h) (hb : h 27 0 0 ≤ 3072) (hi : (i : Int) + 6 ≤ h 27 0 0) : STEP lv 1061 i h := by
  intro v5 v6
  obtain ⟨o1, o2, o3, o4, o5⟩ := ob_i _ hb hi
  by_cases cx : (h 22 0 ((i : Int) + 2).toNat) = 0
  · rcases (ag_strike (lv + 4) (lv + 5) H N (h 22 0 ((i : Int) + 1).toNat) false h I).1 with ⟨v, h1, c1, h2, r1, r3, r5, I2, k1, k2⟩ | ⟨e, h1, c1, hT, b, h2, r1, r3, I2, k1, k2⟩
    · have c1 : cl (lv + 84) _ _ _ = _ := c1
      have r1 : cl (lv + 85) 244 [aA 12 0, aI (h 22 0 ((i : Int) + 1).toNat), aI (0 : Int)] _ = _ := r1
      have tc := thrown_c (lv + 84) h2
      rw [r3] at tc
      have hv := (ag_strike (lv + 4) (lv + 5) H N (h 22 0 ((i : Int) + 1).toNat) false h I).2 v h1 c1
      have wr := wa_strike (lv + 83) (h 22 0 ((i : Int) + 1).toNat) (0 : Int) h h1 v c1 hv
      obtain ⟨q2, q7⟩ := Kh_o (t := 25) (k := 0) (j := 0) (v := v) (K_ri c1 (Kh_self h)) (by omega)
      refine ⟨0, h2, aI 0, aI v, by omega, ⟨I2, Z_ri r1 (Zh_o (Z_ri c1 z) (by omega)), fun j => k1 j, k2⟩, ?_⟩
      rw [addc_0]
      generalize hset h1 25 0 0 v = g1 at *
      rcases hv with rfl | rfl
      · simp (disch := omega) only [x_1, x_7_4_I, x_7_4_A, x_7_4_U, x_61, x_4_4, x_6_0, x_54, x_12, x_66, x_53, x_17, x_6_1, x_11, x_79_6_11_d0, x_79_6_11_d1, x_79_6_11_d2, x_79_6_11_d3, x_79_6_11_d4, x_6_2, x_79_6_12_d0, x_79_6_12_d1, x_79_6_12_d2, x_79_6_12_d3, x_79_6_12_d4, x_62, x_85, x_79_2_11_d0, x_79_2_11_d1, x_79_2_11_d2, x_79_2_11_d3, x_79_2_11_d4, x_79_2_12_d0, x_79_2_12_d1, x_79_2_12_d2, x_79_2_12_d3, x_79_2_12_d4, x_6_3, x_80_2_d0, x_80_2_d1, x_80_2_d2, x_80_2_d3, x_80_2_d4, x_7_5_I, x_7_5_A, x_7_5_U, x_79_1_12_d0, x_79_1_12_d1, x_79_1_12_d2, x_79_1_12_d3, x_79_1_12_d4, x_7_6_I, x_7_6_A, x_7_6_U, x_4_5, x_69, x_42, x_4_6, x_23, x_32, x_68, x_60, x_79_1_11_d0, x_79_1_11_d1, x_79_1_11_d2, x_79_1_11_d3, x_79_1_11_d4, x_80_4_d0, x_80_4_d1, x_80_4_d2, x_80_4_d3, x_80_4_d4, x_79_3_12_d0, x_79_3_12_d1, x_79_3_12_d2, x_79_3_12_d3, x_79_3_12_d4, x_2, x_80_3_d0, x_80_3_d1, x_80_3_d2, x_80_3_d3, x_80_3_d4, x_80_5_d0, x_80_5_d1, x_80_5_d2, x_80_5_d3, x_80_5_d4, x_79_4_12_d0, x_79_4_12_d1, x_79_4_12_d2, x_79_4_12_d3, x_79_4_12_d4, x_10_4_I, x_10_4_A, x_10_4_U, cb_ri, cb_rl, cb_rv, cb_th, cb_ite, ps_s, ps_n, u_368_1061, u_368_1081, u_368_1082, u_368_1108, u_368_1109, u_368_1125, u_368_1142, u_368_1143, u_368_1149, o1, o2, o3, o4, o5, cx, wr, r1, tc, r5, q2, jc_self, Int.reduceEq, Int.reduceLT, Int.reduceLE, reduceIte, Int.reduceAdd, Int.reduceSub, Int.reduceMul, Int.reduceNeg, Int.reduceToNat, Bool.false_eq_true, eq_self, if_pos, if_neg]
      · simp (disch := omega) only [x_1, x_7_4_I, x_7_4_A, x_7_4_U, x_61, x_4_4, x_6_0, x_54, x_12, x_66, x_53, x_17, x_6_1, x_11, x_79_6_11_d0, x_79_6_11_d1, x_79_6_11_d2, x_79_6_11_d3, x_79_6_11_d4, x_6_2, x_79_6_12_d0, x_79_6_12_d1, x_79_6_12_d2, x_79_6_12_d3, x_79_6_12_d4, x_62, x_85, x_79_2_11_d0, x_79_2_11_d1, x_79_2_11_d2, x_79_2_11_d3, x_79_2_11_d4, x_79_2_12_d0, x_79_2_12_d1, x_79_2_12_d2, x_79_2_12_d3, x_79_2_12_d4, x_6_3, x_80_2_d0, x_80_2_d1, x_80_2_d2, x_80_2_d3, x_80_2_d4, x_7_5_I, x_7_5_A, x_7_5_U, x_79_1_12_d0, x_79_1_12_d1, x_79_1_12_d2, x_79_1_12_d3, x_79_1_12_d4, x_7_6_I, x_7_6_A, x_7_6_U, x_4_5, x_69, x_42, x_4_6, x_23, x_32, x_68, x_60, x_79_1_11_d0, x_79_1_11_d1, x_79_1_11_d2, x_79_1_11_d3, x_79_1_11_d4, x_80_4_d0, x_80_4_d1, x_80_4_d2, x_80_4_d3, x_80_4_d4, x_79_3_12_d0, x_79_3_12_d1, x_79_3_12_d2, x_79_3_12_d3, x_79_3_12_d4, x_2, x_80_3_d0, x_80_3_d1, x_80_3_d2, x_80_3_d3, x_80_3_d4, x_80_5_d0, x_80_5_d1, x_80_5_d2, x_80_5_d3, x_80_5_d4, x_79_4_12_d0, x_79_4_12_d1, x_79_4_12_d2, x_79_4_12_d3, x_79_4_12_d4, x_10_4_I, x_10_4_A, x_10_4_U, cb_ri, cb_rl, cb_rv, cb_th, cb_ite, ps_s, ps_n, u_368_1061, u_368_1081, u_368_1082, u_368_1108, u_368_1109, u_368_1125, u_368_1142, u_368_1143, u_368_1149, o1, o2, o3, o4, o5, cx, wr, r1, tc, r5, q2, jc_self, Int.reduceEq, Int.reduceLT, Int.reduceLE, reduceIte, Int.reduceAdd, Int.reduceSub, Int.reduceMul, Int.reduceNeg, Int.reduceToNat, Bool.false_eq_true, eq_self, if_pos, if_neg]
    · have c1 : cl (lv + 84) _ _ _ = _ := c1
      have r1 : cl (lv + 85) 244 [aA 12 0, aI (h 22 0 ((i : Int) + 1).toNat), aI (0 : Int)] _ = _ := r1
      have tc := thrown_c (lv + 84) h2
      rw [r3] at tc
      have wr := wb_strike (lv + 83) (h 22 0 ((i : Int) + 1).toNat) (0 : Int) h h1 e c1 hT
      obtain ⟨q2, q7⟩ := K_th c1 (Kh_self h)
      refine ⟨1, h2, aI (t21 e : Int), aI b, by omega, ⟨I2, Z_ri r1 (Z_th c1 z), fun j => k1 j, k2⟩, ?_⟩
      generalize t21 e = te at *
      have ht0 : ¬ (te : Int) = 0 := by omega
      simp (disch := omega) only [x_1, x_7_4_I, x_7_4_A, x_7_4_U, x_61, x_4_4, x_6_0, x_54, x_12, x_66, x_53, x_17, x_6_1, x_11, x_79_6_11_d0, x_79_6_11_d1, x_79_6_11_d2, x_79_6_11_d3, x_79_6_11_d4, x_6_2, x_79_6_12_d0, x_79_6_12_d1, x_79_6_12_d2, x_79_6_12_d3, x_79_6_12_d4, x_62, x_85, x_79_2_11_d0, x_79_2_11_d1, x_79_2_11_d2, x_79_2_11_d3, x_79_2_11_d4, x_79_2_12_d0, x_79_2_12_d1, x_79_2_12_d2, x_79_2_12_d3, x_79_2_12_d4, x_6_3, x_80_2_d0, x_80_2_d1, x_80_2_d2, x_80_2_d3, x_80_2_d4, x_7_5_I, x_7_5_A, x_7_5_U, x_79_1_12_d0, x_79_1_12_d1, x_79_1_12_d2, x_79_1_12_d3, x_79_1_12_d4, x_7_6_I, x_7_6_A, x_7_6_U, x_4_5, x_69, x_42, x_4_6, x_23, x_32, x_68, x_60, x_79_1_11_d0, x_79_1_11_d1, x_79_1_11_d2, x_79_1_11_d3, x_79_1_11_d4, x_80_4_d0, x_80_4_d1, x_80_4_d2, x_80_4_d3, x_80_4_d4, x_79_3_12_d0, x_79_3_12_d1, x_79_3_12_d2, x_79_3_12_d3, x_79_3_12_d4, x_2, x_80_3_d0, x_80_3_d1, x_80_3_d2, x_80_3_d3, x_80_3_d4, x_80_5_d0, x_80_5_d1, x_80_5_d2, x_80_5_d3, x_80_5_d4, x_79_4_12_d0, x_79_4_12_d1, x_79_4_12_d2, x_79_4_12_d3, x_79_4_12_d4, x_10_4_I, x_10_4_A, x_10_4_U, cb_ri, cb_rl, cb_rv, cb_th, cb_ite, ps_s, ps_n, u_368_1061, u_368_1081, u_368_1082, u_368_1108, u_368_1109, u_368_1125, u_368_1142, u_368_1143, u_368_1149, o1, o2, o3, o4, o5, cx, wr, cb_r1, r1, tc, q2, ht0, Int.reduceEq, Int.reduceLT, Int.reduceLE, reduceIte, Int.reduceAdd, Int.reduceSub, Int.reduceMul, Int.reduceNeg, Int.reduceToNat, Bool.false_eq_true, eq_self, if_pos, if_neg]
  · rcases (ag_strike (lv + 4) (lv + 5) H N (h 22 0 ((i : Int) + 1).toNat) true h I).1 with ⟨v, h1, c1, h2, r1, r3, r5, I2, k1, k2⟩ | ⟨e, h1, c1, hT, b, h2, r1, r3, I2, k1, k2⟩
    · have c1 : cl (lv + 84) _ _ _ = _ := c1
      have r1 : cl (lv + 85) 244 [aA 12 0, aI (h 22 0 ((i : Int) + 1).toNat), aI (1 : Int)] _ = _ := r1
      have tc := thrown_c (lv + 84) h2
      rw [r3] at tc
      have hv := (ag_strike (lv + 4) (lv + 5) H N (h 22 0 ((i : Int) + 1).toNat) true h I).2 v h1 c1
      have wr := wa_strike (lv + 83) (h 22 0 ((i : Int) + 1).toNat) (1 : Int) h h1 v c1 hv
      obtain ⟨q2, q7⟩ := Kh_o (t := 25) (k := 0) (j := 0) (v := v) (K_ri c1 (Kh_self h)) (by omega)
      refine ⟨0, h2, aI 0, aI v, by omega, ⟨I2, Z_ri r1 (Zh_o (Z_ri c1 z) (by omega)), fun j => k1 j, k2⟩, ?_⟩
      rw [addc_0]
      generalize hset h1 25 0 0 v = g1 at *
      rcases hv with rfl | rfl
      · simp (disch := omega) only [x_1, x_7_4_I, x_7_4_A, x_7_4_U, x_61, x_4_4, x_6_0, x_54, x_12, x_66, x_53, x_17, x_6_1, x_11, x_79_6_11_d0, x_79_6_11_d1, x_79_6_11_d2, x_79_6_11_d3, x_79_6_11_d4, x_6_2, x_79_6_12_d0, x_79_6_12_d1, x_79_6_12_d2, x_79_6_12_d3, x_79_6_12_d4, x_62, x_85, x_79_2_11_d0, x_79_2_11_d1, x_79_2_11_d2, x_79_2_11_d3, x_79_2_11_d4, x_79_2_12_d0, x_79_2_12_d1, x_79_2_12_d2, x_79_2_12_d3, x_79_2_12_d4, x_6_3, x_80_2_d0, x_80_2_d1, x_80_2_d2, x_80_2_d3, x_80_2_d4, x_7_5_I, x_7_5_A, x_7_5_U, x_79_1_12_d0, x_79_1_12_d1, x_79_1_12_d2, x_79_1_12_d3, x_79_1_12_d4, x_7_6_I, x_7_6_A, x_7_6_U, x_4_5, x_69, x_42, x_4_6, x_23, x_32, x_68, x_60, x_79_1_11_d0, x_79_1_11_d1, x_79_1_11_d2, x_79_1_11_d3, x_79_1_11_d4, x_80_4_d0, x_80_4_d1, x_80_4_d2, x_80_4_d3, x_80_4_d4, x_79_3_12_d0, x_79_3_12_d1, x_79_3_12_d2, x_79_3_12_d3, x_79_3_12_d4, x_2, x_80_3_d0, x_80_3_d1, x_80_3_d2, x_80_3_d3, x_80_3_d4, x_80_5_d0, x_80_5_d1, x_80_5_d2, x_80_5_d3, x_80_5_d4, x_79_4_12_d0, x_79_4_12_d1, x_79_4_12_d2, x_79_4_12_d3, x_79_4_12_d4, x_10_4_I, x_10_4_A, x_10_4_U, cb_ri, cb_rl, cb_rv, cb_th, cb_ite, ps_s, ps_n, u_368_1061, u_368_1081, u_368_1082, u_368_1108, u_368_1109, u_368_1125, u_368_1142, u_368_1143, u_368_1149, o1, o2, o3, o4, o5, cx, wr, r1, tc, r5, q2, jc_self, Int.reduceEq, Int.reduceLT, Int.reduceLE, reduceIte, Int.reduceAdd, Int.reduceSub, Int.reduceMul, Int.reduceNeg, Int.reduceToNat, Bool.false_eq_true, eq_self, if_pos, if_neg]
      · simp (disch := omega) only [x_1, x_7_4_I, x_7_4_A, x_7_4_U, x_61, x_4_4, x_6_0, x_54, x_12, x_66, x_53, x_17, x_6_1, x_11, x_79_6_11_d0, x_79_6_11_d1, x_79_6_11_d2, x_79_6_11_d3, x_79_6_11_d4, x_6_2, x_79_6_12_d0, x_79_6_12_d1, x_79_6_12_d2, x_79_6_12_d3, x_79_6_12_d4, x_62, x_85, x_79_2_11_d0, x_79_2_11_d1, x_79_2_11_d2, x_79_2_11_d3, x_79_2_11_d4, x_79_2_12_d0, x_79_2_12_d1, x_79_2_12_d2, x_79_2_12_d3, x_79_2_12_d4, x_6_3, x_80_2_d0, x_80_2_d1, x_80_2_d2, x_80_2_d3, x_80_2_d4, x_7_5_I, x_7_5_A, x_7_5_U, x_79_1_12_d0, x_79_1_12_d1, x_79_1_12_d2, x_79_1_12_d3, x_79_1_12_d4, x_7_6_I, x_7_6_A, x_7_6_U, x_4_5, x_69, x_42, x_4_6, x_23, x_32, x_68, x_60, x_79_1_11_d0, x_79_1_11_d1, x_79_1_11_d2, x_79_1_11_d3, x_79_1_11_d4, x_80_4_d0, x_80_4_d1, x_80_4_d2, x_80_4_d3, x_80_4_d4, x_79_3_12_d0, x_79_3_12_d1, x_79_3_12_d2, x_79_3_12_d3, x_79_3_12_d4, x_2, x_80_3_d0, x_80_3_d1, x_80_3_d2, x_80_3_d3, x_80_3_d4, x_80_5_d0, x_80_5_d1, x_80_5_d2, x_80_5_d3, x_80_5_d4, x_79_4_12_d0, x_79_4_12_d1, x_79_4_12_d2, x_79_4_12_d3, x_79_4_12_d4, x_10_4_I, x_10_4_A, x_10_4_U, cb_ri, cb_rl, cb_rv, cb_th, cb_ite, ps_s, ps_n, u_368_1061, u_368_1081, u_368_1082, u_368_1108, u_368_1109, u_368_1125, u_368_1142, u_368_1143, u_368_1149, o1, o2, o3, o4, o5, cx, wr, r1, tc, r5, q2, jc_self, Int.reduceEq, Int.reduceLT, Int.reduceLE, reduceIte, Int.reduceAdd, Int.reduceSub, Int.reduceMul, Int.reduceNeg, Int.reduceToNat, Bool.false_eq_true, eq_self, if_pos, if_neg]
    · have c1 : cl (lv + 84) _ _ _ = _ := c1
      have r1 : cl (lv + 85) 244 [aA 12 0, aI (h 22 0 ((i : Int) + 1).toNat), aI (1 : Int)] _ = _ := r1
      have tc := thrown_c (lv + 84) h2
      rw [r3] at tc
      have wr := wb_strike (lv + 83) (h 22 0 ((i : Int) + 1).toNat) (1 : Int) h h1 e c1 hT
      obtain ⟨q2, q7⟩ := K_th c1 (Kh_self h)
      refine ⟨1, h2, aI (t21 e : Int), aI b, by omega, ⟨I2, Z_ri r1 (Z_th c1 z), fun j => k1 j, k2⟩, ?_⟩
      generalize t21 e = te at *
      have ht0 : ¬ (te : Int) = 0 := by omega
      simp (disch := omega) only [x_1, x_7_4_I, x_7_4_A, x_7_4_U, x_61, x_4_4, x_6_0, x_54, x_12, x_66, x_53, x_17, x_6_1, x_11, x_79_6_11_d0, x_79_6_11_d1, x_79_6_11_d2, x_79_6_11_d3, x_79_6_11_d4, x_6_2, x_79_6_12_d0, x_79_6_12_d1, x_79_6_12_d2, x_79_6_12_d3, x_79_6_12_d4, x_62, x_85, x_79_2_11_d0, x_79_2_11_d1, x_79_2_11_d2, x_79_2_11_d3, x_79_2_11_d4, x_79_2_12_d0, x_79_2_12_d1, x_79_2_12_d2, x_79_2_12_d3, x_79_2_12_d4, x_6_3, x_80_2_d0, x_80_2_d1, x_80_2_d2, x_80_2_d3, x_80_2_d4, x_7_5_I, x_7_5_A, x_7_5_U, x_79_1_12_d0, x_79_1_12_d1, x_79_1_12_d2, x_79_1_12_d3, x_79_1_12_d4, x_7_6_I, x_7_6_A, x_7_6_U, x_4_5, x_69, x_42, x_4_6, x_23, x_32, x_68, x_60, x_79_1_11_d0, x_79_1_11_d1, x_79_1_11_d2, x_79_1_11_d3, x_79_1_11_d4, x_80_4_d0, x_80_4_d1, x_80_4_d2, x_80_4_d3, x_80_4_d4, x_79_3_12_d0, x_79_3_12_d1, x_79_3_12_d2, x_79_3_12_d3, x_79_3_12_d4, x_2, x_80_3_d0, x_80_3_d1, x_80_3_d2, x_80_3_d3, x_80_3_d4, x_80_5_d0, x_80_5_d1, x_80_5_d2, x_80_5_d3, x_80_5_d4, x_79_4_12_d0, x_79_4_12_d1, x_79_4_12_d2, x_79_4_12_d3, x_79_4_12_d4, x_10_4_I, x_10_4_A, x_10_4_U, cb_ri, cb_rl, cb_rv, cb_th, cb_ite, ps_s, ps_n, u_368_1061, u_368_1081, u_368_1082, u_368_1108, u_368_1109, u_368_1125, u_368_1142, u_368_1143, u_368_1149, o1, o2, o3, o4, o5, cx, wr, cb_r1, r1, tc, q2, ht0, Int.reduceEq, Int.reduceLT, Int.reduceLE, reduceIte, Int.reduceAdd, Int.reduceSub, Int.reduceMul, Int.reduceNeg, Int.reduceToNat, Bool.false_eq_true, eq_self, if_pos, if_neg]
theorem lw_shift (lv i H N : Nat) (h : Hp) (I : INV h H N) (z : Zh h) (hb : h 27 0 0 ≤ 3072) (hi : (i : Int) + 6 ≤ h 27 0 0) : STEP lv 1152 i h := by
  intro v5 v6
  obtain ⟨o1, o2, o3, o4, o5⟩ := ob_i _ hb hi
  rcases (ag_shift (lv + 4) (lv + 5) H N (h 22 0 ((i : Int) + 1).toNat) (h 22 0 ((i : Int) + 2).toNat) h I) with ⟨v, h1, c1, h2, r1, r3, r5, I2, k1, k2⟩ | ⟨e, h1, c1, hT, b, h2, r1, r3, I2, k1, k2⟩
  · have c1 : cl (lv + 84) _ _ _ = _ := c1
    have r1 : cl (lv + 85) 245 [aA 12 0, aI (h 22 0 ((i : Int) + 1).toNat), aI (h 22 0 ((i : Int) + 2).toNat)] _ = _ := r1
    have tc := thrown_c (lv + 84) h2
    rw [r3] at tc
    have wr := wa_shift (lv + 83) (h 22 0 ((i : Int) + 1).toNat) (h 22 0 ((i : Int) + 2).toNat) h h1 v c1
    obtain ⟨q2, q7⟩ := Kh_o (t := 25) (k := 0) (j := 0) (v := v) (K_ri c1 (Kh_self h)) (by omega)
    refine ⟨0, h2, aI 0, aI v, by omega, ⟨I2, Z_ri r1 (Zh_o (Z_ri c1 z) (by omega)), fun j => k1 j, k2⟩, ?_⟩
    rw [addc_0]
    generalize hset h1 25 0 0 v = g1 at *
    simp (disch := omega) only [x_1, x_7_4_I, x_7_4_A, x_7_4_U, x_61, x_4_4, x_6_0, x_54, x_12, x_66, x_53, x_17, x_6_1, x_11, x_79_6_11_d0, x_79_6_11_d1, x_79_6_11_d2, x_79_6_11_d3, x_79_6_11_d4, x_6_2, x_79_6_12_d0, x_79_6_12_d1, x_79_6_12_d2, x_79_6_12_d3, x_79_6_12_d4, x_62, x_85, x_79_2_11_d0, x_79_2_11_d1, x_79_2_11_d2, x_79_2_11_d3, x_79_2_11_d4, x_79_2_12_d0, x_79_2_12_d1, x_79_2_12_d2, x_79_2_12_d3, x_79_2_12_d4, x_6_3, x_80_2_d0, x_80_2_d1, x_80_2_d2, x_80_2_d3, x_80_2_d4, x_7_5_I, x_7_5_A, x_7_5_U, x_79_1_12_d0, x_79_1_12_d1, x_79_1_12_d2, x_79_1_12_d3, x_79_1_12_d4, x_7_6_I, x_7_6_A, x_7_6_U, x_4_5, x_69, x_42, x_4_6, x_23, x_32, x_68, x_60, x_79_1_11_d0, x_79_1_11_d1, x_79_1_11_d2, x_79_1_11_d3, x_79_1_11_d4, x_80_4_d0, x_80_4_d1, x_80_4_d2, x_80_4_d3, x_80_4_d4, x_79_3_12_d0, x_79_3_12_d1, x_79_3_12_d2, x_79_3_12_d3, x_79_3_12_d4, x_2, x_80_3_d0, x_80_3_d1, x_80_3_d2, x_80_3_d3, x_80_3_d4, x_80_5_d0, x_80_5_d1, x_80_5_d2, x_80_5_d3, x_80_5_d4, x_79_4_12_d0, x_79_4_12_d1, x_79_4_12_d2, x_79_4_12_d3, x_79_4_12_d4, x_10_4_I, x_10_4_A, x_10_4_U, cb_ri, cb_rl, cb_rv, cb_th, cb_ite, ps_s, ps_n, u_368_1152, u_368_1200, u_368_1217, o1, o2, o3, o4, o5, wr, r1, tc, r5, q2, jc_self, Int.reduceEq, Int.reduceLT, Int.reduceLE, reduceIte, Int.reduceAdd, Int.reduceSub, Int.reduceMul, Int.reduceNeg, Int.reduceToNat, Bool.false_eq_true, eq_self, if_pos, if_neg]
  · have c1 : cl (lv + 84) _ _ _ = _ := c1
    have r1 : cl (lv + 85) 245 [aA 12 0, aI (h 22 0 ((i : Int) + 1).toNat), aI (h 22 0 ((i : Int) + 2).toNat)] _ = _ := r1
    have tc := thrown_c (lv + 84) h2
    rw [r3] at tc
    have wr := wb_shift (lv + 83) (h 22 0 ((i : Int) + 1).toNat) (h 22 0 ((i : Int) + 2).toNat) h h1 e c1 hT
    obtain ⟨q2, q7⟩ := K_th c1 (Kh_self h)
    refine ⟨1, h2, aI (t201 e : Int), aI b, by omega, ⟨I2, Z_ri r1 (Z_th c1 z), fun j => k1 j, k2⟩, ?_⟩
    generalize t201 e = te at *
    have ht0 : ¬ (te : Int) = 0 := by omega
    simp (disch := omega) only [x_1, x_7_4_I, x_7_4_A, x_7_4_U, x_61, x_4_4, x_6_0, x_54, x_12, x_66, x_53, x_17, x_6_1, x_11, x_79_6_11_d0, x_79_6_11_d1, x_79_6_11_d2, x_79_6_11_d3, x_79_6_11_d4, x_6_2, x_79_6_12_d0, x_79_6_12_d1, x_79_6_12_d2, x_79_6_12_d3, x_79_6_12_d4, x_62, x_85, x_79_2_11_d0, x_79_2_11_d1, x_79_2_11_d2, x_79_2_11_d3, x_79_2_11_d4, x_79_2_12_d0, x_79_2_12_d1, x_79_2_12_d2, x_79_2_12_d3, x_79_2_12_d4, x_6_3, x_80_2_d0, x_80_2_d1, x_80_2_d2, x_80_2_d3, x_80_2_d4, x_7_5_I, x_7_5_A, x_7_5_U, x_79_1_12_d0, x_79_1_12_d1, x_79_1_12_d2, x_79_1_12_d3, x_79_1_12_d4, x_7_6_I, x_7_6_A, x_7_6_U, x_4_5, x_69, x_42, x_4_6, x_23, x_32, x_68, x_60, x_79_1_11_d0, x_79_1_11_d1, x_79_1_11_d2, x_79_1_11_d3, x_79_1_11_d4, x_80_4_d0, x_80_4_d1, x_80_4_d2, x_80_4_d3, x_80_4_d4, x_79_3_12_d0, x_79_3_12_d1, x_79_3_12_d2, x_79_3_12_d3, x_79_3_12_d4, x_2, x_80_3_d0, x_80_3_d1, x_80_3_d2, x_80_3_d3, x_80_3_d4, x_80_5_d0, x_80_5_d1, x_80_5_d2, x_80_5_d3, x_80_5_d4, x_79_4_12_d0, x_79_4_12_d1, x_79_4_12_d2, x_79_4_12_d3, x_79_4_12_d4, x_10_4_I, x_10_4_A, x_10_4_U, cb_ri, cb_rl, cb_rv, cb_th, cb_ite, ps_s, ps_n, u_368_1152, u_368_1200, u_368_1217, o1, o2, o3, o4, o5, wr, cb_r1, r1, tc, q2, ht0, Int.reduceEq, Int.reduceLT, Int.reduceLE, reduceIte, Int.reduceAdd, Int.reduceSub, Int.reduceMul, Int.reduceNeg, Int.reduceToNat, Bool.false_eq_true, eq_self, if_pos, if_neg]
theorem lw_slip (lv i H N : Nat) (h : Hp) (I : INV h H N) (z : Zh h) (hb : h 27 0 0 ≤ 3072) (hi : (i : Int) + 6 ≤ h 27 0 0) : STEP lv 1220 i h := by
  intro v5 v6
  obtain ⟨o1, o2, o3, o4, o5⟩ := ob_i _ hb hi
  rcases (ag_slip (lv + 4) (lv + 5) H N (h 22 0 ((i : Int) + 1).toNat) h I) with ⟨v, h1, c1, h2, r1, r3, r5, I2, k1, k2⟩ | ⟨e, h1, c1, hT, b, h2, r1, r3, I2, k1, k2⟩
  · have c1 : cl (lv + 84) _ _ _ = _ := c1
    have r1 : cl (lv + 85) 246 [aA 12 0, aI (h 22 0 ((i : Int) + 1).toNat)] _ = _ := r1
    have tc := thrown_c (lv + 84) h2
    rw [r3] at tc
    have wr := wa_slip (lv + 83) (h 22 0 ((i : Int) + 1).toNat) h h1 v c1
    obtain ⟨q2, q7⟩ := Kh_o (t := 25) (k := 0) (j := 0) (v := v) (K_ri c1 (Kh_self h)) (by omega)
    refine ⟨0, h2, aI 0, aI v, by omega, ⟨I2, Z_ri r1 (Zh_o (Z_ri c1 z) (by omega)), fun j => k1 j, k2⟩, ?_⟩
    rw [addc_0]
    generalize hset h1 25 0 0 v = g1 at *
    simp (disch := omega) only [x_1, x_7_4_I, x_7_4_A, x_7_4_U, x_61, x_4_4, x_6_0, x_54, x_12, x_66, x_53, x_17, x_6_1, x_11, x_79_6_11_d0, x_79_6_11_d1, x_79_6_11_d2, x_79_6_11_d3, x_79_6_11_d4, x_6_2, x_79_6_12_d0, x_79_6_12_d1, x_79_6_12_d2, x_79_6_12_d3, x_79_6_12_d4, x_62, x_85, x_79_2_11_d0, x_79_2_11_d1, x_79_2_11_d2, x_79_2_11_d3, x_79_2_11_d4, x_79_2_12_d0, x_79_2_12_d1, x_79_2_12_d2, x_79_2_12_d3, x_79_2_12_d4, x_6_3, x_80_2_d0, x_80_2_d1, x_80_2_d2, x_80_2_d3, x_80_2_d4, x_7_5_I, x_7_5_A, x_7_5_U, x_79_1_12_d0, x_79_1_12_d1, x_79_1_12_d2, x_79_1_12_d3, x_79_1_12_d4, x_7_6_I, x_7_6_A, x_7_6_U, x_4_5, x_69, x_42, x_4_6, x_23, x_32, x_68, x_60, x_79_1_11_d0, x_79_1_11_d1, x_79_1_11_d2, x_79_1_11_d3, x_79_1_11_d4, x_80_4_d0, x_80_4_d1, x_80_4_d2, x_80_4_d3, x_80_4_d4, x_79_3_12_d0, x_79_3_12_d1, x_79_3_12_d2, x_79_3_12_d3, x_79_3_12_d4, x_2, x_80_3_d0, x_80_3_d1, x_80_3_d2, x_80_3_d3, x_80_3_d4, x_80_5_d0, x_80_5_d1, x_80_5_d2, x_80_5_d3, x_80_5_d4, x_79_4_12_d0, x_79_4_12_d1, x_79_4_12_d2, x_79_4_12_d3, x_79_4_12_d4, x_10_4_I, x_10_4_A, x_10_4_U, cb_ri, cb_rl, cb_rv, cb_th, cb_ite, ps_s, ps_n, u_368_1220, u_368_1256, u_368_1273, o1, o2, o3, o4, o5, wr, r1, tc, r5, q2, jc_self, Int.reduceEq, Int.reduceLT, Int.reduceLE, reduceIte, Int.reduceAdd, Int.reduceSub, Int.reduceMul, Int.reduceNeg, Int.reduceToNat, Bool.false_eq_true, eq_self, if_pos, if_neg]
  · have c1 : cl (lv + 84) _ _ _ = _ := c1
    have r1 : cl (lv + 85) 246 [aA 12 0, aI (h 22 0 ((i : Int) + 1).toNat)] _ = _ := r1
    have tc := thrown_c (lv + 84) h2
    rw [r3] at tc
    have wr := wb_slip (lv + 83) (h 22 0 ((i : Int) + 1).toNat) h h1 e c1 hT
    obtain ⟨q2, q7⟩ := K_th c1 (Kh_self h)
    refine ⟨1, h2, aI (t0 e : Int), aI b, by omega, ⟨I2, Z_ri r1 (Z_th c1 z), fun j => k1 j, k2⟩, ?_⟩
    generalize t0 e = te at *
    have ht0 : ¬ (te : Int) = 0 := by omega
    simp (disch := omega) only [x_1, x_7_4_I, x_7_4_A, x_7_4_U, x_61, x_4_4, x_6_0, x_54, x_12, x_66, x_53, x_17, x_6_1, x_11, x_79_6_11_d0, x_79_6_11_d1, x_79_6_11_d2, x_79_6_11_d3, x_79_6_11_d4, x_6_2, x_79_6_12_d0, x_79_6_12_d1, x_79_6_12_d2, x_79_6_12_d3, x_79_6_12_d4, x_62, x_85, x_79_2_11_d0, x_79_2_11_d1, x_79_2_11_d2, x_79_2_11_d3, x_79_2_11_d4, x_79_2_12_d0, x_79_2_12_d1, x_79_2_12_d2, x_79_2_12_d3, x_79_2_12_d4, x_6_3, x_80_2_d0, x_80_2_d1, x_80_2_d2, x_80_2_d3, x_80_2_d4, x_7_5_I, x_7_5_A, x_7_5_U, x_79_1_12_d0, x_79_1_12_d1, x_79_1_12_d2, x_79_1_12_d3, x_79_1_12_d4, x_7_6_I, x_7_6_A, x_7_6_U, x_4_5, x_69, x_42, x_4_6, x_23, x_32, x_68, x_60, x_79_1_11_d0, x_79_1_11_d1, x_79_1_11_d2, x_79_1_11_d3, x_79_1_11_d4, x_80_4_d0, x_80_4_d1, x_80_4_d2, x_80_4_d3, x_80_4_d4, x_79_3_12_d0, x_79_3_12_d1, x_79_3_12_d2, x_79_3_12_d3, x_79_3_12_d4, x_2, x_80_3_d0, x_80_3_d1, x_80_3_d2, x_80_3_d3, x_80_3_d4, x_80_5_d0, x_80_5_d1, x_80_5_d2, x_80_5_d3, x_80_5_d4, x_79_4_12_d0, x_79_4_12_d1, x_79_4_12_d2, x_79_4_12_d3, x_79_4_12_d4, x_10_4_I, x_10_4_A, x_10_4_U, cb_ri, cb_rl, cb_rv, cb_th, cb_ite, ps_s, ps_n, u_368_1220, u_368_1256, u_368_1273, o1, o2, o3, o4, o5, wr, cb_r1, r1, tc, q2, ht0, Int.reduceEq, Int.reduceLT, Int.reduceLE, reduceIte, Int.reduceAdd, Int.reduceSub, Int.reduceMul, Int.reduceNeg, Int.reduceToNat, Bool.false_eq_true, eq_self, if_pos, if_neg]
