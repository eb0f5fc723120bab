/-! heard, whole -/
theorem heard_m (lv N e : Nat) (M t : Nat → Int) (g : Hp) (g4 : g 194 0 0 = (e : Int)) (he : e ≤ 400) (g7 : g 187 0 = M) (m4 : M 4 = (N : Int)) (hN : N ≤ 14) (hk : ∀ i, i < N → 0 ≤ M (50 + 4 * i + 1) ∧ M (50 + 4 * i + 1) ≤ 63) (ht : ∀ j, j < 400 → g 193 0 j = t j) (h0 : ∀ j, j < 400 → 0 ≤ t j) (ok : rowsB t N e) : cl (lv + 3) 277 [aA 12 0] g = ri ((cnt (fqB M t e) 640 : Nat) : Int) (htH (hset g 194 0 0 0) (fqB M t e) 640) := by
  obtain ⟨k1, k2, k3⟩ := id ok
  have ez : boI true = 1 := rfl
  have ef : boI false = 0 := rfl
  have e7 : hset g 194 0 0 0 187 0 = M := by rw [← g7]; exact funext (fun j => hs_t (by omega))
  have hr := hrow_m (lv + 2) e N t (hset g 194 0 0 0) (fun j hj => by rw [hs_t (by omega)]; exact ht j hj) (by rw [e7]; exact m4) k1
  rw [mw_rw t N e k2, if_neg k3] at hr
  have ir := irem_q (x := (e : Int)) 2 (by omega)
  have k2' : (e : Int) % 2 = 0 := by omega
  rw [in_277]
  simp (disch := omega) only [x_6_0, x_33, x_7_1_I, x_7_1_A, x_7_1_U, x_1, x_36, x_4_1, x_15, x_69, x_66, x_60, x_61, x_7_2_I, x_7_2_A, x_7_2_U, x_7_3_I, x_7_3_A, x_7_3_U, x_4_3, x_65, x_4_2, x_68, x_34, x_38_187, x_38_193, x_10_3_I, x_10_3_A, x_10_3_U, x_82, x_7_4_I, x_7_4_A, x_7_4_U, x_4_4, x_14, x_41_212, x_7_5_I, x_7_5_A, x_7_5_U, x_4_5, x_40_212, x_79_3_12_d0, x_79_3_12_d1, x_79_3_12_d2, x_79_3_12_d3, x_79_3_12_d4, x_11, x_63, x_10_5_I, x_10_5_A, x_10_5_U, x_10_4_I, x_10_4_A, x_10_4_U, cb_ri, cb_rl, cb_rv, cb_th, cb_ite, ps_s, ps_n, u_277_0, u_277_26, u_277_27, u_277_60, u_277_61, u_277_68, u_277_69, u_277_76, u_277_121, u_277_122, u_277_178, u_277_179, u_277_186, u_277_187, u_277_194, u_277_209, u_277_210, u_277_218, g4, ir, k2', hr, Int.reduceEq, Int.reduceLT, Int.reduceLE, reduceIte, Int.reduceAdd, Int.reduceSub, Int.reduceMul, Int.reduceNeg, Int.reduceToNat, Bool.false_eq_true, eq_self, if_pos, if_neg]
  simp (disch := omega) only [x_6_0, x_33, x_7_1_I, x_7_1_A, x_7_1_U, x_1, x_36, x_4_1, x_15, x_69, x_66, x_60, x_61, x_7_2_I, x_7_2_A, x_7_2_U, x_7_3_I, x_7_3_A, x_7_3_U, x_4_3, x_65, x_4_2, x_68, x_34, x_38_187, x_38_193, x_10_3_I, x_10_3_A, x_10_3_U, x_82, x_7_4_I, x_7_4_A, x_7_4_U, x_4_4, x_14, x_41_212, x_7_5_I, x_7_5_A, x_7_5_U, x_4_5, x_40_212, x_79_3_12_d0, x_79_3_12_d1, x_79_3_12_d2, x_79_3_12_d3, x_79_3_12_d4, x_11, x_63, x_10_5_I, x_10_5_A, x_10_5_U, x_10_4_I, x_10_4_A, x_10_4_U, cb_ri, cb_rl, cb_rv, cb_th, cb_ite, ps_s, ps_n, u_277_0, u_277_26, u_277_27, u_277_60, u_277_61, u_277_68, u_277_69, u_277_76, u_277_82, u_277_121, u_277_122, u_277_178, u_277_179, u_277_186, u_277_187, u_277_194, u_277_209, u_277_210, u_277_218, Int.reduceEq, Int.reduceLT, Int.reduceLE, reduceIte, Int.reduceAdd, Int.reduceSub, Int.reduceMul, Int.reduceNeg, Int.reduceToNat, Bool.false_eq_true, eq_self, if_pos, if_neg]
  have main := loop_g (F := fun q (v : AV) => run (lv + 2) 277 87 [aA 12 0, aI (e : Int), aI 1, aI ((cnt (fqB M t e) q : Nat) : Int), aI (q : Int), v] [] (htH (hset g 194 0 0 0) (fqB M t e) q)) (N := 640) (r := ri ((cnt (fqB M t e) 640 : Nat) : Int) (htH (hset g 194 0 0 0) (fqB M t e) 640)) ?_ ?_ none
  · rw [htH_0] at main; exact main
  · intro q v hq
    have es := htH_s (hset g 194 0 0 0) (fqB M t e) q
    have o7 : htH (hset g 194 0 0 0) (fqB M t e) q 187 0 = M := by rw [← e7]; exact funext (fun j => htH_o _ _ _ (by omega))
    obtain ⟨w5, hi⟩ := hinner_m lv N e q M t (htH (hset g 194 0 0 0) (fqB M t e) q) ((cnt (fqB M t e) q : Nat) : Int) o7 hN hk (fun j hj => by rw [htH_o _ _ _ (by omega), hs_t (by omega)]; exact ht j hj) h0 ok hq
    refine ⟨w5, ?_⟩
    have cl' := cnt_le (fqB M t e) q
    have i2 := idiv_p (x := (q : Int)) (y := 80) (by omega) (by omega) (by omega)
    have i3 := idiv_p (x := (q : Int)) (y := 10) (by omega) (by omega) (by omega)
    have i4 := irem_q (x := (q : Int) / 10) 8 (by omega)
    show run _ _ _ _ _ _ = run _ _ _ [_, _, _, aI ((cnt (fqB M t e) q + (if fqB M t e q = true then 1 else 0) : Nat) : Int), _, _] _ _
    rw [← es, hd_277_87]
    generalize htH (hset g 194 0 0 0) (fqB M t e) q = y at *
    have fin : run (lv + 2) 277 194 [aA 12 0, aI (e : Int), aI 1, aI ((cnt (fqB M t e) q : Nat) : Int), aI (q : Int), w5] [] (hset y 212 0 q (boI (fqB M t e q))) = run (lv + 2) 277 87 [aA 12 0, aI (e : Int), aI 1, aI ((cnt (fqB M t e) q + (if fqB M t e q = true then 1 else 0) : Nat) : Int), aI ((q + 1 : Nat) : Int), w5] [] (hset y 212 0 q (boI (fqB M t e q))) := by
      cases hb : fqB M t e q with
      | true =>
        rw [if_pos rfl, ez]
        simp (disch := omega) only [x_6_0, x_33, x_7_1_I, x_7_1_A, x_7_1_U, x_1, x_36, x_4_1, x_15, x_69, x_66, x_60, x_61, x_7_2_I, x_7_2_A, x_7_2_U, x_7_3_I, x_7_3_A, x_7_3_U, x_4_3, x_65, x_4_2, x_68, x_34, x_38_187, x_38_193, x_10_3_I, x_10_3_A, x_10_3_U, x_82, x_7_4_I, x_7_4_A, x_7_4_U, x_4_4, x_14, x_41_212, x_7_5_I, x_7_5_A, x_7_5_U, x_4_5, x_40_212, x_79_3_12_d0, x_79_3_12_d1, x_79_3_12_d2, x_79_3_12_d3, x_79_3_12_d4, x_11, x_63, x_10_5_I, x_10_5_A, x_10_5_U, x_10_4_I, x_10_4_A, x_10_4_U, cb_ri, cb_rl, cb_rv, cb_th, cb_ite, ps_s, ps_n, u_277_0, u_277_26, u_277_27, u_277_60, u_277_61, u_277_68, u_277_69, u_277_76, u_277_82, u_277_121, u_277_122, u_277_178, u_277_179, u_277_186, u_277_187, u_277_194, u_277_209, u_277_210, u_277_218, tn, hs_eq, w32_id, ci, Int.reduceEq, Int.reduceLT, Int.reduceLE, reduceIte, Int.reduceAdd, Int.reduceSub, Int.reduceMul, Int.reduceNeg, Int.reduceToNat, Bool.false_eq_true, eq_self, if_pos, if_neg]
      | false =>
        rw [if_neg (by decide), ef]
        simp (disch := omega) only [x_6_0, x_33, x_7_1_I, x_7_1_A, x_7_1_U, x_1, x_36, x_4_1, x_15, x_69, x_66, x_60, x_61, x_7_2_I, x_7_2_A, x_7_2_U, x_7_3_I, x_7_3_A, x_7_3_U, x_4_3, x_65, x_4_2, x_68, x_34, x_38_187, x_38_193, x_10_3_I, x_10_3_A, x_10_3_U, x_82, x_7_4_I, x_7_4_A, x_7_4_U, x_4_4, x_14, x_41_212, x_7_5_I, x_7_5_A, x_7_5_U, x_4_5, x_40_212, x_79_3_12_d0, x_79_3_12_d1, x_79_3_12_d2, x_79_3_12_d3, x_79_3_12_d4, x_11, x_63, x_10_5_I, x_10_5_A, x_10_5_U, x_10_4_I, x_10_4_A, x_10_4_U, cb_ri, cb_rl, cb_rv, cb_th, cb_ite, ps_s, ps_n, u_277_0, u_277_26, u_277_27, u_277_60, u_277_61, u_277_68, u_277_69, u_277_76, u_277_82, u_277_121, u_277_122, u_277_178, u_277_179, u_277_186, u_277_187, u_277_194, u_277_209, u_277_210, u_277_218, tn, hs_eq, w32_id, ci, Int.reduceEq, Int.reduceLT, Int.reduceLE, reduceIte, Int.reduceAdd, Int.reduceSub, Int.reduceMul, Int.reduceNeg, Int.reduceToNat, Bool.false_eq_true, eq_self, if_pos, if_neg, Nat.add_zero, Int.add_zero]
    rw [← fin, ← hi]
    by_cases c : q / 80 ≤ q / 10 % 8
    · have c' : (q : Int) / 80 ≤ (q : Int) / 10 % 8 := by omega
      rw [decide_eq_true c, ez]
      simp (disch := omega) only [x_6_0, x_33, x_7_1_I, x_7_1_A, x_7_1_U, x_1, x_36, x_4_1, x_15, x_69, x_66, x_60, x_61, x_7_2_I, x_7_2_A, x_7_2_U, x_7_3_I, x_7_3_A, x_7_3_U, x_4_3, x_65, x_4_2, x_68, x_34, x_38_187, x_38_193, x_10_3_I, x_10_3_A, x_10_3_U, x_82, x_7_4_I, x_7_4_A, x_7_4_U, x_4_4, x_14, x_41_212, x_7_5_I, x_7_5_A, x_7_5_U, x_4_5, x_40_212, x_79_3_12_d0, x_79_3_12_d1, x_79_3_12_d2, x_79_3_12_d3, x_79_3_12_d4, x_11, x_63, x_10_5_I, x_10_5_A, x_10_5_U, x_10_4_I, x_10_4_A, x_10_4_U, cb_ri, cb_rl, cb_rv, cb_th, cb_ite, ps_s, ps_n, u_277_0, u_277_26, u_277_27, u_277_60, u_277_61, u_277_68, u_277_69, u_277_76, u_277_82, u_277_121, u_277_122, u_277_178, u_277_179, u_277_186, u_277_187, u_277_194, u_277_209, u_277_210, u_277_218, i2, i3, i4, tn, Int.reduceEq, Int.reduceLT, Int.reduceLE, reduceIte, Int.reduceAdd, Int.reduceSub, Int.reduceMul, Int.reduceNeg, Int.reduceToNat, Bool.false_eq_true, eq_self, if_pos, if_neg]
    · have c' : ¬ (q : Int) / 80 ≤ (q : Int) / 10 % 8 := by omega
      rw [decide_eq_false c, ef]
      simp (disch := omega) only [x_6_0, x_33, x_7_1_I, x_7_1_A, x_7_1_U, x_1, x_36, x_4_1, x_15, x_69, x_66, x_60, x_61, x_7_2_I, x_7_2_A, x_7_2_U, x_7_3_I, x_7_3_A, x_7_3_U, x_4_3, x_65, x_4_2, x_68, x_34, x_38_187, x_38_193, x_10_3_I, x_10_3_A, x_10_3_U, x_82, x_7_4_I, x_7_4_A, x_7_4_U, x_4_4, x_14, x_41_212, x_7_5_I, x_7_5_A, x_7_5_U, x_4_5, x_40_212, x_79_3_12_d0, x_79_3_12_d1, x_79_3_12_d2, x_79_3_12_d3, x_79_3_12_d4, x_11, x_63, x_10_5_I, x_10_5_A, x_10_5_U, x_10_4_I, x_10_4_A, x_10_4_U, cb_ri, cb_rl, cb_rv, cb_th, cb_ite, ps_s, ps_n, u_277_0, u_277_26, u_277_27, u_277_60, u_277_61, u_277_68, u_277_69, u_277_76, u_277_82, u_277_121, u_277_122, u_277_178, u_277_179, u_277_186, u_277_187, u_277_194, u_277_209, u_277_210, u_277_218, i2, i3, i4, tn, Int.reduceEq, Int.reduceLT, Int.reduceLE, reduceIte, Int.reduceAdd, Int.reduceSub, Int.reduceMul, Int.reduceNeg, Int.reduceToNat, Bool.false_eq_true, eq_self, if_pos, if_neg]
  · intro v
    show run _ _ _ _ _ _ = _
    rw [hd_277_87]
    simp (disch := omega) only [x_6_0, x_33, x_7_1_I, x_7_1_A, x_7_1_U, x_1, x_36, x_4_1, x_15, x_69, x_66, x_60, x_61, x_7_2_I, x_7_2_A, x_7_2_U, x_7_3_I, x_7_3_A, x_7_3_U, x_4_3, x_65, x_4_2, x_68, x_34, x_38_187, x_38_193, x_10_3_I, x_10_3_A, x_10_3_U, x_82, x_7_4_I, x_7_4_A, x_7_4_U, x_4_4, x_14, x_41_212, x_7_5_I, x_7_5_A, x_7_5_U, x_4_5, x_40_212, x_79_3_12_d0, x_79_3_12_d1, x_79_3_12_d2, x_79_3_12_d3, x_79_3_12_d4, x_11, x_63, x_10_5_I, x_10_5_A, x_10_5_U, x_10_4_I, x_10_4_A, x_10_4_U, cb_ri, cb_rl, cb_rv, cb_th, cb_ite, ps_s, ps_n, u_277_0, u_277_26, u_277_27, u_277_60, u_277_61, u_277_68, u_277_69, u_277_76, u_277_82, u_277_121, u_277_122, u_277_178, u_277_179, u_277_186, u_277_187, u_277_194, u_277_209, u_277_210, u_277_218, Int.reduceEq, Int.reduceLT, Int.reduceLE, reduceIte, Int.reduceAdd, Int.reduceSub, Int.reduceMul, Int.reduceNeg, Int.reduceToNat, Bool.false_eq_true, eq_self, if_pos, if_neg]
theorem heard_n (lv N e : Nat) (M t : Nat → Int) (g : Hp) (g4 : g 194 0 0 = (e : Int)) (he : e ≤ 400) (g7 : g 187 0 = M) (m4 : M 4 = (N : Int)) (ht : ∀ j, j < 400 → g 193 0 j = t j) (ok : ¬ rowsB t N e) : cl (lv + 3) 277 [aA 12 0] g = ri (-1) (hset g 194 0 0 0) := by
  have e7 : hset g 194 0 0 0 187 0 = M := by rw [← g7]; exact funext (fun j => hs_t (by omega))
  have ir := irem_q (x := (e : Int)) 2 (by omega)
  rw [in_277]
  by_cases c1 : e % 2 = 0
  · have k2' : (e : Int) % 2 = 0 := by omega
    by_cases c2 : e ≤ 40
    · have hr := hrow_m (lv + 2) e N t (hset g 194 0 0 0) (fun j hj => by rw [hs_t (by omega)]; exact ht j hj) (by rw [e7]; exact m4) c2
      have an : anyB (rwP t N) (e / 2) = true := by
        cases h : anyB (rwP t N) (e / 2) with
        | true => rfl
        | false => exact absurd ⟨c2, c1, by rw [h]; decide⟩ ok
      rw [mw_rw t N e c1, if_pos an] at hr
      simp (disch := omega) only [x_6_0, x_33, x_7_1_I, x_7_1_A, x_7_1_U, x_1, x_36, x_4_1, x_15, x_69, x_66, x_60, x_61, x_7_2_I, x_7_2_A, x_7_2_U, x_7_3_I, x_7_3_A, x_7_3_U, x_4_3, x_65, x_4_2, x_68, x_34, x_38_187, x_38_193, x_10_3_I, x_10_3_A, x_10_3_U, x_82, x_7_4_I, x_7_4_A, x_7_4_U, x_4_4, x_14, x_41_212, x_7_5_I, x_7_5_A, x_7_5_U, x_4_5, x_40_212, x_79_3_12_d0, x_79_3_12_d1, x_79_3_12_d2, x_79_3_12_d3, x_79_3_12_d4, x_11, x_63, x_10_5_I, x_10_5_A, x_10_5_U, x_10_4_I, x_10_4_A, x_10_4_U, cb_ri, cb_rl, cb_rv, cb_th, cb_ite, ps_s, ps_n, u_277_0, u_277_26, u_277_27, u_277_60, u_277_61, u_277_68, u_277_69, u_277_76, u_277_82, u_277_121, u_277_122, u_277_178, u_277_179, u_277_186, u_277_187, u_277_194, u_277_209, u_277_210, u_277_218, g4, ir, k2', hr, Int.reduceEq, Int.reduceLT, Int.reduceLE, reduceIte, Int.reduceAdd, Int.reduceSub, Int.reduceMul, Int.reduceNeg, Int.reduceToNat, Bool.false_eq_true, eq_self, if_pos, if_neg]
    · simp (disch := omega) only [x_6_0, x_33, x_7_1_I, x_7_1_A, x_7_1_U, x_1, x_36, x_4_1, x_15, x_69, x_66, x_60, x_61, x_7_2_I, x_7_2_A, x_7_2_U, x_7_3_I, x_7_3_A, x_7_3_U, x_4_3, x_65, x_4_2, x_68, x_34, x_38_187, x_38_193, x_10_3_I, x_10_3_A, x_10_3_U, x_82, x_7_4_I, x_7_4_A, x_7_4_U, x_4_4, x_14, x_41_212, x_7_5_I, x_7_5_A, x_7_5_U, x_4_5, x_40_212, x_79_3_12_d0, x_79_3_12_d1, x_79_3_12_d2, x_79_3_12_d3, x_79_3_12_d4, x_11, x_63, x_10_5_I, x_10_5_A, x_10_5_U, x_10_4_I, x_10_4_A, x_10_4_U, cb_ri, cb_rl, cb_rv, cb_th, cb_ite, ps_s, ps_n, u_277_0, u_277_26, u_277_27, u_277_60, u_277_61, u_277_68, u_277_69, u_277_76, u_277_82, u_277_121, u_277_122, u_277_178, u_277_179, u_277_186, u_277_187, u_277_194, u_277_209, u_277_210, u_277_218, g4, ir, k2', Int.reduceEq, Int.reduceLT, Int.reduceLE, reduceIte, Int.reduceAdd, Int.reduceSub, Int.reduceMul, Int.reduceNeg, Int.reduceToNat, Bool.false_eq_true, eq_self, if_pos, if_neg]
      rw [hd_277_30]
      simp (disch := omega) only [x_6_0, x_33, x_7_1_I, x_7_1_A, x_7_1_U, x_1, x_36, x_4_1, x_15, x_69, x_66, x_60, x_61, x_7_2_I, x_7_2_A, x_7_2_U, x_7_3_I, x_7_3_A, x_7_3_U, x_4_3, x_65, x_4_2, x_68, x_34, x_38_187, x_38_193, x_10_3_I, x_10_3_A, x_10_3_U, x_82, x_7_4_I, x_7_4_A, x_7_4_U, x_4_4, x_14, x_41_212, x_7_5_I, x_7_5_A, x_7_5_U, x_4_5, x_40_212, x_79_3_12_d0, x_79_3_12_d1, x_79_3_12_d2, x_79_3_12_d3, x_79_3_12_d4, x_11, x_63, x_10_5_I, x_10_5_A, x_10_5_U, x_10_4_I, x_10_4_A, x_10_4_U, cb_ri, cb_rl, cb_rv, cb_th, cb_ite, ps_s, ps_n, u_277_0, u_277_26, u_277_27, u_277_60, u_277_61, u_277_68, u_277_69, u_277_76, u_277_82, u_277_121, u_277_122, u_277_178, u_277_179, u_277_186, u_277_187, u_277_194, u_277_209, u_277_210, u_277_218, Int.reduceEq, Int.reduceLT, Int.reduceLE, reduceIte, Int.reduceAdd, Int.reduceSub, Int.reduceMul, Int.reduceNeg, Int.reduceToNat, Bool.false_eq_true, eq_self, if_pos, if_neg]
  · have k2' : ¬ (e : Int) % 2 = 0 := by omega
    simp (disch := omega) only [x_6_0, x_33, x_7_1_I, x_7_1_A, x_7_1_U, x_1, x_36, x_4_1, x_15, x_69, x_66, x_60, x_61, x_7_2_I, x_7_2_A, x_7_2_U, x_7_3_I, x_7_3_A, x_7_3_U, x_4_3, x_65, x_4_2, x_68, x_34, x_38_187, x_38_193, x_10_3_I, x_10_3_A, x_10_3_U, x_82, x_7_4_I, x_7_4_A, x_7_4_U, x_4_4, x_14, x_41_212, x_7_5_I, x_7_5_A, x_7_5_U, x_4_5, x_40_212, x_79_3_12_d0, x_79_3_12_d1, x_79_3_12_d2, x_79_3_12_d3, x_79_3_12_d4, x_11, x_63, x_10_5_I, x_10_5_A, x_10_5_U, x_10_4_I, x_10_4_A, x_10_4_U, cb_ri, cb_rl, cb_rv, cb_th, cb_ite, ps_s, ps_n, u_277_0, u_277_26, u_277_27, u_277_60, u_277_61, u_277_68, u_277_69, u_277_76, u_277_82, u_277_121, u_277_122, u_277_178, u_277_179, u_277_186, u_277_187, u_277_194, u_277_209, u_277_210, u_277_218, g4, ir, k2', Int.reduceEq, Int.reduceLT, Int.reduceLE, reduceIte, Int.reduceAdd, Int.reduceSub, Int.reduceMul, Int.reduceNeg, Int.reduceToNat, Bool.false_eq_true, eq_self, if_pos, if_neg]
    rw [hd_277_30]
    by_cases c3 : 0 < e
    · simp (disch := omega) only [x_6_0, x_33, x_7_1_I, x_7_1_A, x_7_1_U, x_1, x_36, x_4_1, x_15, x_69, x_66, x_60, x_61, x_7_2_I, x_7_2_A, x_7_2_U, x_7_3_I, x_7_3_A, x_7_3_U, x_4_3, x_65, x_4_2, x_68, x_34, x_38_187, x_38_193, x_10_3_I, x_10_3_A, x_10_3_U, x_82, x_7_4_I, x_7_4_A, x_7_4_U, x_4_4, x_14, x_41_212, x_7_5_I, x_7_5_A, x_7_5_U, x_4_5, x_40_212, x_79_3_12_d0, x_79_3_12_d1, x_79_3_12_d2, x_79_3_12_d3, x_79_3_12_d4, x_11, x_63, x_10_5_I, x_10_5_A, x_10_5_U, x_10_4_I, x_10_4_A, x_10_4_U, cb_ri, cb_rl, cb_rv, cb_th, cb_ite, ps_s, ps_n, u_277_0, u_277_26, u_277_27, u_277_60, u_277_61, u_277_68, u_277_69, u_277_76, u_277_82, u_277_121, u_277_122, u_277_178, u_277_179, u_277_186, u_277_187, u_277_194, u_277_209, u_277_210, u_277_218, Int.reduceEq, Int.reduceLT, Int.reduceLE, reduceIte, Int.reduceAdd, Int.reduceSub, Int.reduceMul, Int.reduceNeg, Int.reduceToNat, Bool.false_eq_true, eq_self, if_pos, if_neg]
    · simp (disch := omega) only [x_6_0, x_33, x_7_1_I, x_7_1_A, x_7_1_U, x_1, x_36, x_4_1, x_15, x_69, x_66, x_60, x_61, x_7_2_I, x_7_2_A, x_7_2_U, x_7_3_I, x_7_3_A, x_7_3_U, x_4_3, x_65, x_4_2, x_68, x_34, x_38_187, x_38_193, x_10_3_I, x_10_3_A, x_10_3_U, x_82, x_7_4_I, x_7_4_A, x_7_4_U, x_4_4, x_14, x_41_212, x_7_5_I, x_7_5_A, x_7_5_U, x_4_5, x_40_212, x_79_3_12_d0, x_79_3_12_d1, x_79_3_12_d2, x_79_3_12_d3, x_79_3_12_d4, x_11, x_63, x_10_5_I, x_10_5_A, x_10_5_U, x_10_4_I, x_10_4_A, x_10_4_U, cb_ri, cb_rl, cb_rv, cb_th, cb_ite, ps_s, ps_n, u_277_0, u_277_26, u_277_27, u_277_60, u_277_61, u_277_68, u_277_69, u_277_76, u_277_82, u_277_121, u_277_122, u_277_178, u_277_179, u_277_186, u_277_187, u_277_194, u_277_209, u_277_210, u_277_218, Int.reduceEq, Int.reduceLT, Int.reduceLE, reduceIte, Int.reduceAdd, Int.reduceSub, Int.reduceMul, Int.reduceNeg, Int.reduceToNat, Bool.false_eq_true, eq_self, if_pos, if_neg]
theorem nwF_b {f : Nat → Bool} (hf : ∀ q, f q = true → q / 80 ≤ q / 10 % 8) : ∀ q, nwF f q = -1 ∨ (1 ≤ nwF f q ∧ nwF f q ≤ 8) := by
  intro q
  induction q with
  | zero => exact Or.inl rfl
  | succ q ih =>
    simp only [nwF]
    by_cases c : f q = true
    · have := hf q c
      rw [if_pos c]
      unfold wqF
      right
      split <;> omega
    · rw [if_neg c]; exact ih
theorem fq_lo {M t : Nat → Int} {e : Nat} : ∀ q, fqB M t e q = true → q / 80 ≤ q / 10 % 8 := fun q h => by
  unfold fqB at h
  rw [Bool.and_eq_true] at h
  exact of_decide_eq_true h.1
theorem Sm_wg {g : Hp} {M t : Nat → Int} {e N q : Nat} (hN : N ≤ 14) : Sm csc g (wgH g M t e N q) := fun tt k j hf => (wgH_x hN q).2.2.2 tt k j (by unfold csc at hf; omega)
theorem Sm_ht {g : Hp} {f : Nat → Bool} {q : Nat} : Sm rsc g (htH g f q) := fun tt k j hf => by unfold htH; rw [if_neg (by unfold rsc at hf; omega)]
