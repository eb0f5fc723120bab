/-! octaves -/
theorem irem_p {x : Int} (h : 0 ≤ x) : irem x 12 = x % 12 := Int.tmod_eq_emod_of_nonneg h
theorem ag_octaves (lc lr H N : Nat) (h : Hp) (I : INV h H N) : AGp (fun h => cl (lc + 80) 119 [aA 11 0] h) (fun h => cl (lr + 80) 272 [aA 12 0] h) h := by
  have hk := GN_key I.1.2.1.2.1
  have G := I.1.2.1.2.1
  have hN := G.2.1
  have sb := sumN_b (f := fun b => ocS (h 187 0) (b : Int) N) (K := 196) (fun b => ocS_b _ _ hN)
  refine AGp_q I (v := ((sumN (fun b => ocS (h 187 0) (b : Int) N) 12 : Nat) : Int)) ⟨h, ?_, Sm_r _ _⟩ (fun g s J => ⟨hset g 186 0 0 0, ?_, rsc_186 g 0⟩)
  · show cl (lc + 80) _ _ _ = _
    rw [in_119]
    simp (disch := omega) only [x_1, x_7_1_I, x_7_1_A, x_7_1_U, x_7_2_I, x_7_2_A, x_7_2_U, x_61, x_4_2, x_65, x_6_0, x_35_0, x_79_2_7_d0, x_79_2_7_d1, x_79_2_7_d2, x_79_2_7_d3, x_79_2_7_d4, x_8_3_I, x_8_3_A, x_8_3_U, x_7_5_I, x_7_5_A, x_7_5_U, x_4_5, x_4_1, x_5_3, x_31, x_27, x_80_1_d0, x_80_1_d1, x_80_1_d2, x_80_1_d3, x_80_1_d4, x_11, x_10_5_I, x_10_5_A, x_10_5_U, x_60, x_10_2_I, x_10_2_A, x_10_2_U, x_82, cb_ri, cb_rl, cb_rv, cb_th, cb_ite, ps_s, ps_n, u_119_0, u_119_48, u_119_54]
    refine loop_g (F := fun b (v : AV × AV) => run (lc + 79) 119 4 [aA 11 0, aI ((sumN (fun b => ocS (h 187 0) (b : Int) N) b : Nat) : Int), aI (b : Int), v.1, none, v.2] [] h) (N := 12) ?_ ?_ (none, none)
    · intro b v hb
      have ka := keysAt_c (lc + 77) 0 N (h 187 0) (b : Int) h I.1.1.2.1 hk
      have s1 := sb b
      have lx := oKs_lt (M := h 187 0) (b := (b : Int)) hk
      have oe := oc_eq G (b : Int)
      have ob := ocS_b (h 187 0) (b : Int) hN
      refine ⟨(aJ (kJ (oKs (h 187 0) (b : Int) N)), aI ((12 * (5 + 1) : Nat) : Int)), ?_⟩
      show run _ _ _ _ _ _ = run _ _ _ [aA 11 0, aI ((sumN (fun b => ocS (h 187 0) (b : Int) N) b + ocS (h 187 0) (b : Int) N : Nat) : Int), _, _, _, _] _ _
      generalize sumN (fun b => ocS (h 187 0) (b : Int) N) b = sm at s1 ⊢
      rw [← oe, hd_119_4]
      rw [← oe] at ob
      simp (disch := omega) only [x_1, x_7_1_I, x_7_1_A, x_7_1_U, x_7_2_I, x_7_2_A, x_7_2_U, x_61, x_4_2, x_65, x_6_0, x_35_0, x_79_2_7_d0, x_79_2_7_d1, x_79_2_7_d2, x_79_2_7_d3, x_79_2_7_d4, x_8_3_I, x_8_3_A, x_8_3_U, x_7_5_I, x_7_5_A, x_7_5_U, x_4_5, x_4_1, x_5_3, x_31, x_27, x_80_1_d0, x_80_1_d1, x_80_1_d2, x_80_1_d3, x_80_1_d4, x_11, x_10_5_I, x_10_5_A, x_10_5_U, x_60, x_10_2_I, x_10_2_A, x_10_2_U, x_82, cb_ri, cb_rl, cb_rv, cb_th, cb_ite, ps_s, ps_n, u_119_0, u_119_48, u_119_54, ka, Int.reduceEq, Int.reduceLT, Int.reduceLE, reduceIte, Int.reduceAdd, Int.reduceSub, Int.reduceMul, Int.reduceNeg, Int.reduceToNat, Bool.false_eq_true, eq_self, if_pos, if_neg, ci, w32_id]
      generalize oKs (h 187 0) (b : Int) N = a at *
      refine loop_up (F := fun m => run (lc + 79) 119 23 [aA 11 0, aI ((sm + sumN (fun m => cnt (fun k => a.testBit k && a.testBit (12 * (m + 1) + k)) 64) m : Nat) : Int), aI (b : Int), aJ (kJ a), none, aI ((12 * (m + 1) : Nat) : Int)] [] h) (N := 5) ?_ ?_ 0 (by omega)
      · intro m hm
        have us := jushr_k (i := 12 * (m + 1)) lx (by omega)
        have al : a &&& (a >>> (12 * (m + 1))) < 2 ^ 64 := Nat.lt_of_le_of_lt Nat.and_le_left lx
        have bc := bitCountL_c (lc + 78) (a &&& (a >>> (12 * (m + 1)))) h al
        have e1 : cnt (fun i => (a &&& (a >>> (12 * (m + 1)))).testBit i) 64 = cnt (fun k => a.testBit k && a.testBit (12 * (m + 1) + k)) 64 := cnt_congr (fun k _ => by rw [Nat.testBit_and, Nat.testBit_shiftRight])
        rw [e1] at bc
        have m1 := sumN_b (f := fun m => cnt (fun k => a.testBit k && a.testBit (12 * (m + 1) + k)) 64) (K := 64) (fun i => cnt_le _ _) m
        have m2 := cnt_le (fun k => a.testBit k && a.testBit (12 * (m + 1) + k)) 64
        show run _ _ _ _ _ _ = run _ _ _ [_, aI ((sm + (sumN (fun m => cnt (fun k => a.testBit k && a.testBit (12 * (m + 1) + k)) 64) m + cnt (fun k => a.testBit k && a.testBit (12 * (m + 1) + k)) 64) : Nat) : Int), _, _, _, _] _ _
        generalize cnt (fun k => a.testBit k && a.testBit (12 * (m + 1) + k)) 64 = cc at *
        generalize sumN (fun m => cnt (fun k => a.testBit k && a.testBit (12 * (m + 1) + k)) 64) m = ss at *
        have e2 : ((12 * (m + 1 + 1) : Nat) : Int) = ((12 * (m + 1) : Nat) : Int) + 12 := by omega
        have e3 : ((sm + (ss + cc) : Nat) : Int) = ((sm + ss : Nat) : Int) + ((cc : Nat) : Int) := by omega
        rw [e2, e3, hd_119_23]
        generalize hd : 12 * (m + 1) = d at *
        simp (disch := omega) only [x_1, x_7_1_I, x_7_1_A, x_7_1_U, x_7_2_I, x_7_2_A, x_7_2_U, x_61, x_4_2, x_65, x_6_0, x_35_0, x_79_2_7_d0, x_79_2_7_d1, x_79_2_7_d2, x_79_2_7_d3, x_79_2_7_d4, x_8_3_I, x_8_3_A, x_8_3_U, x_7_5_I, x_7_5_A, x_7_5_U, x_4_5, x_4_1, x_5_3, x_31, x_27, x_80_1_d0, x_80_1_d1, x_80_1_d2, x_80_1_d3, x_80_1_d4, x_11, x_10_5_I, x_10_5_A, x_10_5_U, x_60, x_10_2_I, x_10_2_A, x_10_2_U, x_82, cb_ri, cb_rl, cb_rv, cb_th, cb_ite, ps_s, ps_n, u_119_0, u_119_48, u_119_54, us, jand_k, bc, Int.reduceEq, Int.reduceLT, Int.reduceLE, reduceIte, Int.reduceAdd, Int.reduceSub, Int.reduceMul, Int.reduceNeg, Int.reduceToNat, Bool.false_eq_true, eq_self, if_pos, if_neg, w32_id]
      · show run _ _ _ _ _ _ = _
        rw [hd_119_23]
        simp (disch := omega) only [x_1, x_7_1_I, x_7_1_A, x_7_1_U, x_7_2_I, x_7_2_A, x_7_2_U, x_61, x_4_2, x_65, x_6_0, x_35_0, x_79_2_7_d0, x_79_2_7_d1, x_79_2_7_d2, x_79_2_7_d3, x_79_2_7_d4, x_8_3_I, x_8_3_A, x_8_3_U, x_7_5_I, x_7_5_A, x_7_5_U, x_4_5, x_4_1, x_5_3, x_31, x_27, x_80_1_d0, x_80_1_d1, x_80_1_d2, x_80_1_d3, x_80_1_d4, x_11, x_10_5_I, x_10_5_A, x_10_5_U, x_60, x_10_2_I, x_10_2_A, x_10_2_U, x_82, cb_ri, cb_rl, cb_rv, cb_th, cb_ite, ps_s, ps_n, u_119_0, u_119_48, u_119_54, Int.reduceEq, Int.reduceLT, Int.reduceLE, reduceIte, Int.reduceAdd, Int.reduceSub, Int.reduceMul, Int.reduceNeg, Int.reduceToNat, Bool.false_eq_true, eq_self, if_pos, if_neg, ci, w32_id]
        rfl
    · intro v
      show run _ _ _ _ _ _ = _
      rw [hd_119_4]
      simp (disch := omega) only [x_1, x_7_1_I, x_7_1_A, x_7_1_U, x_7_2_I, x_7_2_A, x_7_2_U, x_61, x_4_2, x_65, x_6_0, x_35_0, x_79_2_7_d0, x_79_2_7_d1, x_79_2_7_d2, x_79_2_7_d3, x_79_2_7_d4, x_8_3_I, x_8_3_A, x_8_3_U, x_7_5_I, x_7_5_A, x_7_5_U, x_4_5, x_4_1, x_5_3, x_31, x_27, x_80_1_d0, x_80_1_d1, x_80_1_d2, x_80_1_d3, x_80_1_d4, x_11, x_10_5_I, x_10_5_A, x_10_5_U, x_60, x_10_2_I, x_10_2_A, x_10_2_U, x_82, cb_ri, cb_rl, cb_rv, cb_th, cb_ite, ps_s, ps_n, u_119_0, u_119_48, u_119_54, Int.reduceEq, Int.reduceLT, Int.reduceLE, reduceIte, Int.reduceAdd, Int.reduceSub, Int.reduceMul, Int.reduceNeg, Int.reduceToNat, Bool.false_eq_true, eq_self, if_pos, if_neg]
  · show cl (lr + 80) _ _ _ = _
    have g7 : hset g 186 0 0 0 187 0 = h 187 0 := by rw [h186_m, Sm_187 s scr_187]
    have m4 : hset g 186 0 0 0 187 0 4 = (N : Int) := by rw [g7]; exact G.1
    rw [in_272]
    simp (disch := omega) only [x_6_0, x_1, x_36, x_7_1_I, x_7_1_A, x_7_1_U, x_7_2_I, x_7_2_A, x_7_2_U, x_61, x_4_2, x_65, x_79_2_12_d0, x_79_2_12_d1, x_79_2_12_d2, x_79_2_12_d3, x_79_2_12_d4, x_7_3_I, x_7_3_A, x_7_3_U, x_7_4_I, x_7_4_A, x_7_4_U, x_4_4, x_34, x_38_187, x_7_5_I, x_7_5_A, x_7_5_U, x_4_5, x_4_1, x_4_3, x_80_2_d0, x_80_2_d1, x_80_2_d2, x_80_2_d3, x_80_2_d4, x_68, x_79_3_12_d0, x_79_3_12_d1, x_79_3_12_d2, x_79_3_12_d3, x_79_3_12_d4, x_67, x_12, x_15, x_69, x_60, x_11, x_10_5_I, x_10_5_A, x_10_5_U, x_10_4_I, x_10_4_A, x_10_4_U, x_10_2_I, x_10_2_A, x_10_2_U, x_82, cb_ri, cb_rl, cb_rv, cb_th, cb_ite, ps_s, ps_n, u_272_0, u_272_110, u_272_111, u_272_119, u_272_125, u_272_131]
    refine loop_g (F := fun b (v : AV × AV × AV) => run (lr + 79) 272 9 [aA 12 0, aI ((sumN (fun b => ocS (h 187 0) (b : Int) N) b : Nat) : Int), aI (b : Int), v.1, v.2.1, v.2.2] [] (hset g 186 0 0 0)) (N := 12) ?_ ?_ (none, none, none)
    · intro b v hb
      have s1 := sb b
      have na := notesOf_c (lr + 76) N (b : Int) (hset g 186 0 0 0) m4 hN
      rw [g7] at na
      have nl : bsN (atB (h 187 0) (b : Int)) N < 2147483648 := Nat.lt_of_lt_of_le (bsN_mono _ hN) (by decide)
      have main : ∀ v5 : AV, ∃ w5 : AV, run (lr + 79) 272 24 [aA 12 0, aI ((sumN (fun b => ocS (h 187 0) (b : Int) N) b : Nat) : Int), aI (b : Int), aI ((bsN (atB (h 187 0) (b : Int)) N : Nat) : Int), aI 0, v5] [] (hset g 186 0 0 0) = run (lr + 79) 272 24 [aA 12 0, aI ((sumN (fun b => ocS (h 187 0) (b : Int) N) b + ocS (h 187 0) (b : Int) N : Nat) : Int), aI (b : Int), aI ((bsN (atB (h 187 0) (b : Int)) N : Nat) : Int), aI (N : Int), w5] [] (hset g 186 0 0 0) := by
        intro v5
        have ob := sumN_b (f := fun i => cnt (ocB (h 187 0) (b : Int) i) N) (K := 14) (fun i => Nat.le_trans (cnt_le _ _) hN)
        generalize sumN (fun b => ocS (h 187 0) (b : Int) N) b = sm at s1 ⊢
        unfold ocS
        have fin : ∀ n, n ≤ N → ∃ w5 : AV, run (lr + 79) 272 24 [aA 12 0, aI (sm : Int), aI (b : Int), aI ((bsN (atB (h 187 0) (b : Int)) N : Nat) : Int), aI 0, v5] [] (hset g 186 0 0 0) = run (lr + 79) 272 24 [aA 12 0, aI ((sm + sumN (fun i => cnt (ocB (h 187 0) (b : Int) i) N) n : Nat) : Int), aI (b : Int), aI ((bsN (atB (h 187 0) (b : Int)) N : Nat) : Int), aI (n : Int), w5] [] (hset g 186 0 0 0) := by
          intro n
          induction n with
          | zero => intro _; exact ⟨v5, rfl⟩
          | succ i ih =>
            intro hi
            obtain ⟨w, ih⟩ := ih (by omega)
            refine ⟨aI (N : Int), ih.trans ?_⟩
            have o1 := ob i
            show run _ _ _ _ _ _ = run _ _ _ [_, aI ((sm + (sumN (fun i => cnt (ocB (h 187 0) (b : Int) i) N) i + cnt (ocB (h 187 0) (b : Int) i) N) : Nat) : Int), _, _, _, _] _ _
            generalize sumN (fun i => cnt (ocB (h 187 0) (b : Int) i) N) i = si at *
            rw [hd_272_24]
            simp (disch := omega) only [x_6_0, x_1, x_36, x_7_1_I, x_7_1_A, x_7_1_U, x_7_2_I, x_7_2_A, x_7_2_U, x_61, x_4_2, x_65, x_79_2_12_d0, x_79_2_12_d1, x_79_2_12_d2, x_79_2_12_d3, x_79_2_12_d4, x_7_3_I, x_7_3_A, x_7_3_U, x_7_4_I, x_7_4_A, x_7_4_U, x_4_4, x_34, x_38_187, x_7_5_I, x_7_5_A, x_7_5_U, x_4_5, x_4_1, x_4_3, x_80_2_d0, x_80_2_d1, x_80_2_d2, x_80_2_d3, x_80_2_d4, x_68, x_79_3_12_d0, x_79_3_12_d1, x_79_3_12_d2, x_79_3_12_d3, x_79_3_12_d4, x_67, x_12, x_15, x_69, x_60, x_11, x_10_5_I, x_10_5_A, x_10_5_U, x_10_4_I, x_10_4_A, x_10_4_U, x_10_2_I, x_10_2_A, x_10_2_U, x_82, cb_ri, cb_rl, cb_rv, cb_th, cb_ite, ps_s, ps_n, u_272_0, u_272_110, u_272_111, u_272_119, u_272_125, u_272_131, m4, Int.reduceEq, Int.reduceLT, Int.reduceLE, reduceIte, Int.reduceAdd, Int.reduceSub, Int.reduceMul, Int.reduceNeg, Int.reduceToNat, Bool.false_eq_true, eq_self, if_pos, if_neg]
            have ii := isOf_c (lr + 78) (bsN (atB (h 187 0) (b : Int)) N) i (hset g 186 0 0 0) nl (by omega)
            rw [bsN_bit, decide_eq_true (show i < N by omega), Bool.true_and] at ii
            have ni : cl (lr + 79) 175 [aA 12 0, aI (i : Int), aI 1] (hset g 186 0 0 0) = _ := ofNote_c (lr + 78) i 1 (hset g 186 0 0 0) (by omega) (by omega)
            rw [g7] at ni
            have hki := hk i (by omega)
            refine loop_up (F := fun j => run (lr + 79) 272 38 [aA 12 0, aI ((sm + (si + cnt (ocB (h 187 0) (b : Int) i) j) : Nat) : Int), aI (b : Int), aI ((bsN (atB (h 187 0) (b : Int)) N : Nat) : Int), aI (i : Int), aI (j : Int)] [] (hset g 186 0 0 0)) (N := N) ?_ ?_ 0 (by omega)
            · intro j hj
              have ij := isOf_c (lr + 78) (bsN (atB (h 187 0) (b : Int)) N) j (hset g 186 0 0 0) nl (by omega)
              rw [bsN_bit, decide_eq_true hj, Bool.true_and] at ij
              have nj : cl (lr + 79) 175 [aA 12 0, aI (j : Int), aI 1] (hset g 186 0 0 0) = _ := ofNote_c (lr + 78) j 1 (hset g 186 0 0 0) (by omega) (by omega)
              rw [g7] at nj
              have hkj := hk j hj
              have c1 := cnt_le (ocB (h 187 0) (b : Int) i) j
              show run _ _ _ _ _ _ = run _ _ _ [_, aI ((sm + (si + (cnt (ocB (h 187 0) (b : Int) i) j + (if ocB (h 187 0) (b : Int) i j = true then 1 else 0))) : Nat) : Int), _, _, _, _] _ _
              generalize cnt (ocB (h 187 0) (b : Int) i) j = cc at *
              have hdef : ocB (h 187 0) (b : Int) i j = (atB (h 187 0) (b : Int) i && (atB (h 187 0) (b : Int) j && (decide (h 187 0 (50 + 4 * i + 1) < h 187 0 (50 + 4 * j + 1)) && decide ((h 187 0 (50 + 4 * j + 1) - h 187 0 (50 + 4 * i + 1)) % 12 = 0)))) := rfl
              rw [hdef, hd_272_38]
              generalize h 187 0 (50 + 4 * i + 1) = ki at *
              generalize h 187 0 (50 + 4 * j + 1) = kj at *
              have e3 : ((sm + (si + (cc + 1)) : Nat) : Int) = ((sm + (si + cc) : Nat) : Int) + 1 := by omega
              cases a1 : atB (h 187 0) (b : Int) i with
              | false =>
                rw [if_neg (by rw [a1]; decide)] at ii
                rw [Bool.false_and, if_neg (by decide)]
                simp (disch := omega) only [x_6_0, x_1, x_36, x_7_1_I, x_7_1_A, x_7_1_U, x_7_2_I, x_7_2_A, x_7_2_U, x_61, x_4_2, x_65, x_79_2_12_d0, x_79_2_12_d1, x_79_2_12_d2, x_79_2_12_d3, x_79_2_12_d4, x_7_3_I, x_7_3_A, x_7_3_U, x_7_4_I, x_7_4_A, x_7_4_U, x_4_4, x_34, x_38_187, x_7_5_I, x_7_5_A, x_7_5_U, x_4_5, x_4_1, x_4_3, x_80_2_d0, x_80_2_d1, x_80_2_d2, x_80_2_d3, x_80_2_d4, x_68, x_79_3_12_d0, x_79_3_12_d1, x_79_3_12_d2, x_79_3_12_d3, x_79_3_12_d4, x_67, x_12, x_15, x_69, x_60, x_11, x_10_5_I, x_10_5_A, x_10_5_U, x_10_4_I, x_10_4_A, x_10_4_U, x_10_2_I, x_10_2_A, x_10_2_U, x_82, cb_ri, cb_rl, cb_rv, cb_th, cb_ite, ps_s, ps_n, u_272_0, u_272_110, u_272_111, u_272_119, u_272_125, u_272_131, m4, ii, Int.reduceEq, Int.reduceLT, Int.reduceLE, reduceIte, Int.reduceAdd, Int.reduceSub, Int.reduceMul, Int.reduceNeg, Int.reduceToNat, Bool.false_eq_true, eq_self, if_pos, if_neg, ci, w32_id, Nat.add_zero, Int.add_zero]
              | true =>
                rw [if_pos a1] at ii
                cases a2 : atB (h 187 0) (b : Int) j with
                | false =>
                  rw [if_neg (by rw [a2]; decide)] at ij
                  rw [Bool.true_and, Bool.false_and, if_neg (by decide)]
                  simp (disch := omega) only [x_6_0, x_1, x_36, x_7_1_I, x_7_1_A, x_7_1_U, x_7_2_I, x_7_2_A, x_7_2_U, x_61, x_4_2, x_65, x_79_2_12_d0, x_79_2_12_d1, x_79_2_12_d2, x_79_2_12_d3, x_79_2_12_d4, x_7_3_I, x_7_3_A, x_7_3_U, x_7_4_I, x_7_4_A, x_7_4_U, x_4_4, x_34, x_38_187, x_7_5_I, x_7_5_A, x_7_5_U, x_4_5, x_4_1, x_4_3, x_80_2_d0, x_80_2_d1, x_80_2_d2, x_80_2_d3, x_80_2_d4, x_68, x_79_3_12_d0, x_79_3_12_d1, x_79_3_12_d2, x_79_3_12_d3, x_79_3_12_d4, x_67, x_12, x_15, x_69, x_60, x_11, x_10_5_I, x_10_5_A, x_10_5_U, x_10_4_I, x_10_4_A, x_10_4_U, x_10_2_I, x_10_2_A, x_10_2_U, x_82, cb_ri, cb_rl, cb_rv, cb_th, cb_ite, ps_s, ps_n, u_272_0, u_272_110, u_272_111, u_272_119, u_272_125, u_272_131, m4, ii, ij, Int.reduceEq, Int.reduceLT, Int.reduceLE, reduceIte, Int.reduceAdd, Int.reduceSub, Int.reduceMul, Int.reduceNeg, Int.reduceToNat, Bool.false_eq_true, eq_self, if_pos, if_neg, ci, w32_id, Nat.add_zero, Int.add_zero]
                | true =>
                  rw [if_pos a2] at ij
                  rw [Bool.true_and, Bool.true_and]
                  by_cases d1 : ki < kj
                  · have ir := irem_p (x := kj - ki) (by omega)
                    by_cases d2 : (kj - ki) % 12 = 0
                    · rw [decide_eq_true d1, decide_eq_true d2, if_pos (by decide), e3]
                      simp (disch := omega) only [x_6_0, x_1, x_36, x_7_1_I, x_7_1_A, x_7_1_U, x_7_2_I, x_7_2_A, x_7_2_U, x_61, x_4_2, x_65, x_79_2_12_d0, x_79_2_12_d1, x_79_2_12_d2, x_79_2_12_d3, x_79_2_12_d4, x_7_3_I, x_7_3_A, x_7_3_U, x_7_4_I, x_7_4_A, x_7_4_U, x_4_4, x_34, x_38_187, x_7_5_I, x_7_5_A, x_7_5_U, x_4_5, x_4_1, x_4_3, x_80_2_d0, x_80_2_d1, x_80_2_d2, x_80_2_d3, x_80_2_d4, x_68, x_79_3_12_d0, x_79_3_12_d1, x_79_3_12_d2, x_79_3_12_d3, x_79_3_12_d4, x_67, x_12, x_15, x_69, x_60, x_11, x_10_5_I, x_10_5_A, x_10_5_U, x_10_4_I, x_10_4_A, x_10_4_U, x_10_2_I, x_10_2_A, x_10_2_U, x_82, cb_ri, cb_rl, cb_rv, cb_th, cb_ite, ps_s, ps_n, u_272_0, u_272_110, u_272_111, u_272_119, u_272_125, u_272_131, m4, ii, ij, ni, nj, ir, d1, d2, Int.reduceEq, Int.reduceLT, Int.reduceLE, reduceIte, Int.reduceAdd, Int.reduceSub, Int.reduceMul, Int.reduceNeg, Int.reduceToNat, Bool.false_eq_true, eq_self, if_pos, if_neg, ci, w32_id]
                    · rw [decide_eq_false d2, Bool.and_false, if_neg (by decide)]
                      simp (disch := omega) only [x_6_0, x_1, x_36, x_7_1_I, x_7_1_A, x_7_1_U, x_7_2_I, x_7_2_A, x_7_2_U, x_61, x_4_2, x_65, x_79_2_12_d0, x_79_2_12_d1, x_79_2_12_d2, x_79_2_12_d3, x_79_2_12_d4, x_7_3_I, x_7_3_A, x_7_3_U, x_7_4_I, x_7_4_A, x_7_4_U, x_4_4, x_34, x_38_187, x_7_5_I, x_7_5_A, x_7_5_U, x_4_5, x_4_1, x_4_3, x_80_2_d0, x_80_2_d1, x_80_2_d2, x_80_2_d3, x_80_2_d4, x_68, x_79_3_12_d0, x_79_3_12_d1, x_79_3_12_d2, x_79_3_12_d3, x_79_3_12_d4, x_67, x_12, x_15, x_69, x_60, x_11, x_10_5_I, x_10_5_A, x_10_5_U, x_10_4_I, x_10_4_A, x_10_4_U, x_10_2_I, x_10_2_A, x_10_2_U, x_82, cb_ri, cb_rl, cb_rv, cb_th, cb_ite, ps_s, ps_n, u_272_0, u_272_110, u_272_111, u_272_119, u_272_125, u_272_131, m4, ii, ij, ni, nj, ir, d1, d2, Int.reduceEq, Int.reduceLT, Int.reduceLE, reduceIte, Int.reduceAdd, Int.reduceSub, Int.reduceMul, Int.reduceNeg, Int.reduceToNat, Bool.false_eq_true, eq_self, if_pos, if_neg, ci, w32_id, Nat.add_zero, Int.add_zero]
                  · rw [decide_eq_false d1, Bool.false_and, if_neg (by decide)]
                    simp (disch := omega) only [x_6_0, x_1, x_36, x_7_1_I, x_7_1_A, x_7_1_U, x_7_2_I, x_7_2_A, x_7_2_U, x_61, x_4_2, x_65, x_79_2_12_d0, x_79_2_12_d1, x_79_2_12_d2, x_79_2_12_d3, x_79_2_12_d4, x_7_3_I, x_7_3_A, x_7_3_U, x_7_4_I, x_7_4_A, x_7_4_U, x_4_4, x_34, x_38_187, x_7_5_I, x_7_5_A, x_7_5_U, x_4_5, x_4_1, x_4_3, x_80_2_d0, x_80_2_d1, x_80_2_d2, x_80_2_d3, x_80_2_d4, x_68, x_79_3_12_d0, x_79_3_12_d1, x_79_3_12_d2, x_79_3_12_d3, x_79_3_12_d4, x_67, x_12, x_15, x_69, x_60, x_11, x_10_5_I, x_10_5_A, x_10_5_U, x_10_4_I, x_10_4_A, x_10_4_U, x_10_2_I, x_10_2_A, x_10_2_U, x_82, cb_ri, cb_rl, cb_rv, cb_th, cb_ite, ps_s, ps_n, u_272_0, u_272_110, u_272_111, u_272_119, u_272_125, u_272_131, m4, ii, ij, ni, nj, d1, Int.reduceEq, Int.reduceLT, Int.reduceLE, reduceIte, Int.reduceAdd, Int.reduceSub, Int.reduceMul, Int.reduceNeg, Int.reduceToNat, Bool.false_eq_true, eq_self, if_pos, if_neg, ci, w32_id, Nat.add_zero, Int.add_zero]
            · show run _ _ _ _ _ _ = _
              rw [hd_272_38]
              simp (disch := omega) only [x_6_0, x_1, x_36, x_7_1_I, x_7_1_A, x_7_1_U, x_7_2_I, x_7_2_A, x_7_2_U, x_61, x_4_2, x_65, x_79_2_12_d0, x_79_2_12_d1, x_79_2_12_d2, x_79_2_12_d3, x_79_2_12_d4, x_7_3_I, x_7_3_A, x_7_3_U, x_7_4_I, x_7_4_A, x_7_4_U, x_4_4, x_34, x_38_187, x_7_5_I, x_7_5_A, x_7_5_U, x_4_5, x_4_1, x_4_3, x_80_2_d0, x_80_2_d1, x_80_2_d2, x_80_2_d3, x_80_2_d4, x_68, x_79_3_12_d0, x_79_3_12_d1, x_79_3_12_d2, x_79_3_12_d3, x_79_3_12_d4, x_67, x_12, x_15, x_69, x_60, x_11, x_10_5_I, x_10_5_A, x_10_5_U, x_10_4_I, x_10_4_A, x_10_4_U, x_10_2_I, x_10_2_A, x_10_2_U, x_82, cb_ri, cb_rl, cb_rv, cb_th, cb_ite, ps_s, ps_n, u_272_0, u_272_110, u_272_111, u_272_119, u_272_125, u_272_131, m4, Int.reduceEq, Int.reduceLT, Int.reduceLE, reduceIte, Int.reduceAdd, Int.reduceSub, Int.reduceMul, Int.reduceNeg, Int.reduceToNat, Bool.false_eq_true, eq_self, if_pos, if_neg, ci, w32_id]
        exact fin N (Nat.le_refl _)
      obtain ⟨w5, main⟩ := main v.2.2
      refine ⟨(aI ((bsN (atB (h 187 0) (b : Int)) N : Nat) : Int), aI (N : Int), w5), ?_⟩
      show run _ _ _ _ _ _ = run _ _ _ [aA 12 0, aI ((sumN (fun b => ocS (h 187 0) (b : Int) N) b + ocS (h 187 0) (b : Int) N : Nat) : Int), _, _, _, _] _ _
      rw [hd_272_9]
      simp (disch := omega) only [x_6_0, x_1, x_36, x_7_1_I, x_7_1_A, x_7_1_U, x_7_2_I, x_7_2_A, x_7_2_U, x_61, x_4_2, x_65, x_79_2_12_d0, x_79_2_12_d1, x_79_2_12_d2, x_79_2_12_d3, x_79_2_12_d4, x_7_3_I, x_7_3_A, x_7_3_U, x_7_4_I, x_7_4_A, x_7_4_U, x_4_4, x_34, x_38_187, x_7_5_I, x_7_5_A, x_7_5_U, x_4_5, x_4_1, x_4_3, x_80_2_d0, x_80_2_d1, x_80_2_d2, x_80_2_d3, x_80_2_d4, x_68, x_79_3_12_d0, x_79_3_12_d1, x_79_3_12_d2, x_79_3_12_d3, x_79_3_12_d4, x_67, x_12, x_15, x_69, x_60, x_11, x_10_5_I, x_10_5_A, x_10_5_U, x_10_4_I, x_10_4_A, x_10_4_U, x_10_2_I, x_10_2_A, x_10_2_U, x_82, cb_ri, cb_rl, cb_rv, cb_th, cb_ite, ps_s, ps_n, u_272_0, u_272_110, u_272_111, u_272_119, u_272_125, u_272_131, na, Int.reduceEq, Int.reduceLT, Int.reduceLE, reduceIte, Int.reduceAdd, Int.reduceSub, Int.reduceMul, Int.reduceNeg, Int.reduceToNat, Bool.false_eq_true, eq_self, if_pos, if_neg]
      refine Eq.trans main ?_
      rw [hd_272_24]
      simp (disch := omega) only [x_6_0, x_1, x_36, x_7_1_I, x_7_1_A, x_7_1_U, x_7_2_I, x_7_2_A, x_7_2_U, x_61, x_4_2, x_65, x_79_2_12_d0, x_79_2_12_d1, x_79_2_12_d2, x_79_2_12_d3, x_79_2_12_d4, x_7_3_I, x_7_3_A, x_7_3_U, x_7_4_I, x_7_4_A, x_7_4_U, x_4_4, x_34, x_38_187, x_7_5_I, x_7_5_A, x_7_5_U, x_4_5, x_4_1, x_4_3, x_80_2_d0, x_80_2_d1, x_80_2_d2, x_80_2_d3, x_80_2_d4, x_68, x_79_3_12_d0, x_79_3_12_d1, x_79_3_12_d2, x_79_3_12_d3, x_79_3_12_d4, x_67, x_12, x_15, x_69, x_60, x_11, x_10_5_I, x_10_5_A, x_10_5_U, x_10_4_I, x_10_4_A, x_10_4_U, x_10_2_I, x_10_2_A, x_10_2_U, x_82, cb_ri, cb_rl, cb_rv, cb_th, cb_ite, ps_s, ps_n, u_272_0, u_272_110, u_272_111, u_272_119, u_272_125, u_272_131, m4, Int.reduceEq, Int.reduceLT, Int.reduceLE, reduceIte, Int.reduceAdd, Int.reduceSub, Int.reduceMul, Int.reduceNeg, Int.reduceToNat, Bool.false_eq_true, eq_self, if_pos, if_neg, ci, w32_id]
    · intro v
      show run _ _ _ _ _ _ = _
      rw [hd_272_9]
      simp (disch := omega) only [x_6_0, x_1, x_36, x_7_1_I, x_7_1_A, x_7_1_U, x_7_2_I, x_7_2_A, x_7_2_U, x_61, x_4_2, x_65, x_79_2_12_d0, x_79_2_12_d1, x_79_2_12_d2, x_79_2_12_d3, x_79_2_12_d4, x_7_3_I, x_7_3_A, x_7_3_U, x_7_4_I, x_7_4_A, x_7_4_U, x_4_4, x_34, x_38_187, x_7_5_I, x_7_5_A, x_7_5_U, x_4_5, x_4_1, x_4_3, x_80_2_d0, x_80_2_d1, x_80_2_d2, x_80_2_d3, x_80_2_d4, x_68, x_79_3_12_d0, x_79_3_12_d1, x_79_3_12_d2, x_79_3_12_d3, x_79_3_12_d4, x_67, x_12, x_15, x_69, x_60, x_11, x_10_5_I, x_10_5_A, x_10_5_U, x_10_4_I, x_10_4_A, x_10_4_U, x_10_2_I, x_10_2_A, x_10_2_U, x_82, cb_ri, cb_rl, cb_rv, cb_th, cb_ite, ps_s, ps_n, u_272_0, u_272_110, u_272_111, u_272_119, u_272_125, u_272_131, Int.reduceEq, Int.reduceLT, Int.reduceLE, reduceIte, Int.reduceAdd, Int.reduceSub, Int.reduceMul, Int.reduceNeg, Int.reduceToNat, Bool.false_eq_true, eq_self, if_pos, if_neg]
