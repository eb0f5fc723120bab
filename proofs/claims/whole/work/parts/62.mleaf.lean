/-! THE REFERENCE: its small methods. -/
theorem ci (i : Nat) : (i : Int) + 1 = ((i + 1 : Nat) : Int) := rfl
theorem isIn_c (lv : Nat) (v a b : Int) (h : Hp) : cl (lv + 1) 168 [aI v, aI a, aI b] h = ri (if a ≤ v ∧ v ≤ b then 1 else 0) h := by
  rw [in_168]
  by_cases h1 : a ≤ v ∧ v ≤ b
  · simp (disch := omega) only [x_4_0, x_4_1, x_64, x_4_2, x_66, x_1, x_60, x_61, x_85, u_168_0, u_168_14, u_168_15, Int.reduceEq, Int.reduceLT, Int.reduceLE, reduceIte, Int.reduceAdd, Int.reduceSub, Int.reduceMul, Int.reduceNeg, Int.reduceToNat, Bool.false_eq_true, eq_self, if_pos, if_neg]
  · by_cases h2 : v < a
    · simp (disch := omega) only [x_4_0, x_4_1, x_64, x_4_2, x_66, x_1, x_60, x_61, x_85, u_168_0, u_168_14, u_168_15, Int.reduceEq, Int.reduceLT, Int.reduceLE, reduceIte, Int.reduceAdd, Int.reduceSub, Int.reduceMul, Int.reduceNeg, Int.reduceToNat, Bool.false_eq_true, eq_self, if_pos, if_neg]
    · simp (disch := omega) only [x_4_0, x_4_1, x_64, x_4_2, x_66, x_1, x_60, x_61, x_85, u_168_0, u_168_14, u_168_15, Int.reduceEq, Int.reduceLT, Int.reduceLE, reduceIte, Int.reduceAdd, Int.reduceSub, Int.reduceMul, Int.reduceNeg, Int.reduceToNat, Bool.false_eq_true, eq_self, if_pos, if_neg]
theorem lesser_c (lv : Nat) (a b : Int) (h : Hp) : cl (lv + 1) 169 [aI a, aI b] h = ri (min a b) h := by
  rw [in_169]
  simp (disch := omega) only [x_4_0, x_4_1, x_65, x_60, x_61, x_82, u_169_0, u_169_9, u_169_10]
  split <;> congr 1 <;> omega
theorem greater_c (lv : Nat) (a b : Int) (h : Hp) : cl (lv + 1) 170 [aI a, aI b] h = ri (max a b) h := by
  rw [in_170]
  simp (disch := omega) only [x_4_0, x_4_1, x_67, x_60, x_61, x_82, u_170_0, u_170_9, u_170_10]
  split <;> congr 1 <;> omega
theorem isOf_c (lv : Nat) (a k : Nat) (h : Hp) (ha : a < 2147483648) (hk : k < 32) : cl (lv + 1) 171 [aI (a : Int), aI (k : Int)] h = ri (if a.testBit k = true then 1 else 0) h := by
  rw [in_171]
  by_cases h1 : a.testBit k = true
  · simp (disch := omega) only [x_4_0, x_4_1, x_21, x_1, x_17, x_63, x_60, x_61, x_85, u_171_0, u_171_13, u_171_14, bit_n hk ha, h1, Int.reduceEq, Int.reduceLT, Int.reduceLE, reduceIte, Int.reduceAdd, Int.reduceSub, Int.reduceMul, Int.reduceNeg, Int.reduceToNat, Bool.false_eq_true, eq_self, if_pos, if_neg]
  · simp (disch := omega) only [x_4_0, x_4_1, x_21, x_1, x_17, x_63, x_60, x_61, x_85, u_171_0, u_171_13, u_171_14, bit_n hk ha, h1, Int.reduceEq, Int.reduceLT, Int.reduceLE, reduceIte, Int.reduceAdd, Int.reduceSub, Int.reduceMul, Int.reduceNeg, Int.reduceToNat, Bool.false_eq_true, eq_self, if_pos, if_neg]
theorem bits_x (lv : Nat) (a : Nat) (h : Hp) (ha : a < 2147483648) : cl (lv + 1) 172 [aI (a : Int)] h = ri ((cnt (fun i => a.testBit i) 31 : Nat) : Int) h := by
  rw [in_172]
  simp (disch := omega) only [x_1, x_7_1_I, x_7_1_A, x_7_1_U, x_7_2_I, x_7_2_A, x_7_2_U, x_61, x_4_2, x_65, x_4_1, x_4_0, x_21, x_17, x_11, x_10_2_I, x_10_2_A, x_10_2_U, x_60, x_82, u_172_0, u_172_24]
  refine loop_up (F := fun i => run lv 172 4 [aI (a : Int), aI ((cnt (fun i => a.testBit i) i : Nat) : Int), aI (i : Int)] [] h) (N := 31) ?_ ?_ 0 (by omega)
  · intro i hi
    have hc := cnt_le (fun i => a.testBit i) i
    show run _ _ _ _ _ _ = run _ _ _ _ _ _
    rw [hd_172_4]
    simp (disch := omega) only [x_1, x_7_1_I, x_7_1_A, x_7_1_U, x_7_2_I, x_7_2_A, x_7_2_U, x_61, x_4_2, x_65, x_4_1, x_4_0, x_21, x_17, x_11, x_10_2_I, x_10_2_A, x_10_2_U, x_60, x_82, u_172_0, u_172_24, bit_n (show i < 32 by omega) ha, cnt, ci, Int.reduceEq, Int.reduceLT, Int.reduceLE, reduceIte, Int.reduceAdd, Int.reduceSub, Int.reduceMul, Int.reduceNeg, Int.reduceToNat, Bool.false_eq_true, eq_self, if_pos, if_neg]
    split <;> simp (disch := omega) only [w32_id] <;> rfl
  · show run _ _ _ _ _ _ = _
    rw [hd_172_4]
    simp (disch := omega) only [x_1, x_7_1_I, x_7_1_A, x_7_1_U, x_7_2_I, x_7_2_A, x_7_2_U, x_61, x_4_2, x_65, x_4_1, x_4_0, x_21, x_17, x_11, x_10_2_I, x_10_2_A, x_10_2_U, x_60, x_82, u_172_0, u_172_24, Int.reduceEq, Int.reduceLT, Int.reduceLE, reduceIte, Int.reduceAdd, Int.reduceSub, Int.reduceMul, Int.reduceNeg, Int.reduceToNat, Bool.false_eq_true, eq_self, if_pos, if_neg]
theorem bits_c (lv : Nat) (P : Nat → Bool) (n : Nat) (h : Hp) (hn : n ≤ 31) : cl (lv + 1) 172 [aI ((bsN P n : Nat) : Int)] h = ri ((cnt P n : Nat) : Int) h := by
  rw [bits_x lv _ h (bsN_mono P hn)]
  have e : (fun i => (bsN P n).testBit i) = fun i => (decide (i < n) && P i) := by funext i; rw [bsN_bit]
  rw [e, cnt_cut P hn]
theorem its_c (lv n w : Nat) (h : Hp) (hn : n < 7) (hw : w < 6) : cl (lv + 1) 173 [aA 12 0, aI (n : Int), aI (w : Int)] h = ri (h 187 0 (14 + 6 * n + w)) h := by
  rw [in_173]
  simp (disch := omega) only [x_6_0, x_34, x_1, x_4_1, x_13, x_11, x_4_2, x_38_187, x_82, u_173_0, w32_id]
  congr 2
theorem lays_c (lv n w : Nat) (v : Int) (h : Hp) (hn : n < 7) (hw : w < 6) : cl (lv + 1) 174 [aA 12 0, aI (n : Int), aI (w : Int), aI v] h = rv (hset h 187 0 (14 + 6 * n + w) v) := by
  rw [in_174]
  simp (disch := omega) only [x_6_0, x_34, x_1, x_4_1, x_13, x_11, x_4_2, x_4_3, x_39_187, x_83, u_174_0, w32_id]
  congr 2
theorem ofNote_c (lv n w : Nat) (h : Hp) (hn : n < 14) (hw : w < 4) : cl (lv + 1) 175 [aA 12 0, aI (n : Int), aI (w : Int)] h = ri (h 187 0 (50 + 4 * n + w)) h := by
  rw [in_175]
  simp (disch := omega) only [x_6_0, x_34, x_1, x_4_1, x_13, x_11, x_4_2, x_38_187, x_82, u_175_0, w32_id]
  congr 2
theorem isHand_c (lv N : Nat) (x : Int) (h : Hp) (hN : h 187 0 3 = (N : Int)) (hN6 : N ≤ 6) : cl (lv + 2) 176 [aA 12 0, aI x] h = ri (if 0 ≤ x ∧ x < N then 1 else 0) h := by
  rw [in_176]
  simp (disch := omega) only [x_4_1, x_1, x_6_0, x_34, x_38_187, x_12, x_80_3_d0, x_80_3_d1, x_80_3_d2, x_80_3_d3, x_80_3_d4, x_85, cb_ri, cb_rl, cb_rv, cb_th, cb_ite, ps_s, ps_n, u_176_0, isIn_c, Int.reduceEq, Int.reduceLT, Int.reduceLE, reduceIte, Int.reduceAdd, Int.reduceSub, Int.reduceMul, Int.reduceNeg, Int.reduceToNat, Bool.false_eq_true, eq_self, if_pos, if_neg, hN, w32_id]
  by_cases h1 : 0 ≤ x ∧ x < N
  · simp (disch := omega) only [x_4_1, x_1, x_6_0, x_34, x_38_187, x_12, x_80_3_d0, x_80_3_d1, x_80_3_d2, x_80_3_d3, x_80_3_d4, x_85, cb_ri, cb_rl, cb_rv, cb_th, cb_ite, ps_s, ps_n, u_176_0, Int.reduceEq, Int.reduceLT, Int.reduceLE, reduceIte, Int.reduceAdd, Int.reduceSub, Int.reduceMul, Int.reduceNeg, Int.reduceToNat, Bool.false_eq_true, eq_self, if_pos, if_neg]
  · simp (disch := omega) only [x_4_1, x_1, x_6_0, x_34, x_38_187, x_12, x_80_3_d0, x_80_3_d1, x_80_3_d2, x_80_3_d3, x_80_3_d4, x_85, cb_ri, cb_rl, cb_rv, cb_th, cb_ite, ps_s, ps_n, u_176_0, Int.reduceEq, Int.reduceLT, Int.reduceLE, reduceIte, Int.reduceAdd, Int.reduceSub, Int.reduceMul, Int.reduceNeg, Int.reduceToNat, Bool.false_eq_true, eq_self, if_pos, if_neg]
theorem isNote_c (lv N : Nat) (x : Int) (h : Hp) (hN : h 187 0 4 = (N : Int)) (hN6 : N ≤ 14) : cl (lv + 2) 177 [aA 12 0, aI x] h = ri (if 0 ≤ x ∧ x < N then 1 else 0) h := by
  rw [in_177]
  simp (disch := omega) only [x_4_1, x_1, x_6_0, x_34, x_38_187, x_12, x_80_3_d0, x_80_3_d1, x_80_3_d2, x_80_3_d3, x_80_3_d4, x_85, cb_ri, cb_rl, cb_rv, cb_th, cb_ite, ps_s, ps_n, u_177_0, isIn_c, Int.reduceEq, Int.reduceLT, Int.reduceLE, reduceIte, Int.reduceAdd, Int.reduceSub, Int.reduceMul, Int.reduceNeg, Int.reduceToNat, Bool.false_eq_true, eq_self, if_pos, if_neg, hN, w32_id]
  by_cases h1 : 0 ≤ x ∧ x < N
  · simp (disch := omega) only [x_4_1, x_1, x_6_0, x_34, x_38_187, x_12, x_80_3_d0, x_80_3_d1, x_80_3_d2, x_80_3_d3, x_80_3_d4, x_85, cb_ri, cb_rl, cb_rv, cb_th, cb_ite, ps_s, ps_n, u_177_0, Int.reduceEq, Int.reduceLT, Int.reduceLE, reduceIte, Int.reduceAdd, Int.reduceSub, Int.reduceMul, Int.reduceNeg, Int.reduceToNat, Bool.false_eq_true, eq_self, if_pos, if_neg]
  · simp (disch := omega) only [x_4_1, x_1, x_6_0, x_34, x_38_187, x_12, x_80_3_d0, x_80_3_d1, x_80_3_d2, x_80_3_d3, x_80_3_d4, x_85, cb_ri, cb_rl, cb_rv, cb_th, cb_ite, ps_s, ps_n, u_177_0, Int.reduceEq, Int.reduceLT, Int.reduceLE, reduceIte, Int.reduceAdd, Int.reduceSub, Int.reduceMul, Int.reduceNeg, Int.reduceToNat, Bool.false_eq_true, eq_self, if_pos, if_neg]
theorem isBeat_c (lv : Nat) (x : Int) (h : Hp) : cl (lv + 2) 178 [aI x] h = ri (if 0 ≤ x ∧ x < 12 then 1 else 0) h := by
  rw [in_178]
  by_cases h1 : 0 ≤ x ∧ x < 12
  · simp (disch := omega) only [x_4_0, x_1, x_80_3_d0, x_80_3_d1, x_80_3_d2, x_80_3_d3, x_80_3_d4, x_85, cb_ri, cb_rl, cb_rv, cb_th, cb_ite, ps_s, ps_n, u_178_0, isIn_c, Int.reduceEq, Int.reduceLT, Int.reduceLE, reduceIte, Int.reduceAdd, Int.reduceSub, Int.reduceMul, Int.reduceNeg, Int.reduceToNat, Bool.false_eq_true, eq_self, if_pos, if_neg]
  · simp (disch := omega) only [x_4_0, x_1, x_80_3_d0, x_80_3_d1, x_80_3_d2, x_80_3_d3, x_80_3_d4, x_85, cb_ri, cb_rl, cb_rv, cb_th, cb_ite, ps_s, ps_n, u_178_0, isIn_c, Int.reduceEq, Int.reduceLT, Int.reduceLE, reduceIte, Int.reduceAdd, Int.reduceSub, Int.reduceMul, Int.reduceNeg, Int.reduceToNat, Bool.false_eq_true, eq_self, if_pos, if_neg]
theorem isPlayer_c (lv : Nat) (x : Int) (h : Hp) : cl (lv + 2) 179 [aI x] h = ri (if 0 ≤ x ∧ x < 3 then 1 else 0) h := by
  rw [in_179]
  by_cases h1 : 0 ≤ x ∧ x < 3
  · simp (disch := omega) only [x_4_0, x_1, x_80_3_d0, x_80_3_d1, x_80_3_d2, x_80_3_d3, x_80_3_d4, x_85, cb_ri, cb_rl, cb_rv, cb_th, cb_ite, ps_s, ps_n, u_179_0, isIn_c, Int.reduceEq, Int.reduceLT, Int.reduceLE, reduceIte, Int.reduceAdd, Int.reduceSub, Int.reduceMul, Int.reduceNeg, Int.reduceToNat, Bool.false_eq_true, eq_self, if_pos, if_neg]
  · simp (disch := omega) only [x_4_0, x_1, x_80_3_d0, x_80_3_d1, x_80_3_d2, x_80_3_d3, x_80_3_d4, x_85, cb_ri, cb_rl, cb_rv, cb_th, cb_ite, ps_s, ps_n, u_179_0, isIn_c, Int.reduceEq, Int.reduceLT, Int.reduceLE, reduceIte, Int.reduceAdd, Int.reduceSub, Int.reduceMul, Int.reduceNeg, Int.reduceToNat, Bool.false_eq_true, eq_self, if_pos, if_neg]
/-- of a memory: whether a note stands; stands at a beat; is some note's -/
def stB (M : Nat → Int) (n : Nat) : Bool := decide (M (50 + 4 * n + 3) = 0)
def atB (M : Nat → Int) (b : Int) (n : Nat) : Bool := stB M n && decide (M (50 + 4 * n) = b)
def thB (M : Nat → Int) (key b but : Int) (n : Nat) : Bool := decide ((n : Int) ≠ but) && atB M b n && decide (M (50 + 4 * n + 1) = key)
theorem stands_c (lv n : Nat) (h : Hp) (hn : n < 14) : cl (lv + 2) 180 [aA 12 0, aI (n : Int)] h = ri (if stB (h 187 0) n = true then 1 else 0) h := by
  rw [in_180]
  have e := ofNote_c lv n 3 h hn (by omega)
  rw [show ((3 : Nat) : Int) = 3 from rfl] at e
  unfold stB
  by_cases h1 : h 187 0 (50 + 4 * n + 3) = 0
  · simp (disch := omega) only [x_6_0, x_4_1, x_1, x_79_3_12_d0, x_79_3_12_d1, x_79_3_12_d2, x_79_3_12_d3, x_79_3_12_d4, x_69, x_60, x_61, x_85, cb_ri, cb_rl, cb_rv, cb_th, cb_ite, ps_s, ps_n, u_180_0, u_180_13, u_180_14, e, Int.reduceEq, Int.reduceLT, Int.reduceLE, reduceIte, Int.reduceAdd, Int.reduceSub, Int.reduceMul, Int.reduceNeg, Int.reduceToNat, Bool.false_eq_true, eq_self, if_pos, if_neg, decide_eq_true_eq]
  · simp (disch := omega) only [x_6_0, x_4_1, x_1, x_79_3_12_d0, x_79_3_12_d1, x_79_3_12_d2, x_79_3_12_d3, x_79_3_12_d4, x_69, x_60, x_61, x_85, cb_ri, cb_rl, cb_rv, cb_th, cb_ite, ps_s, ps_n, u_180_0, u_180_13, u_180_14, e, Int.reduceEq, Int.reduceLT, Int.reduceLE, reduceIte, Int.reduceAdd, Int.reduceSub, Int.reduceMul, Int.reduceNeg, Int.reduceToNat, Bool.false_eq_true, eq_self, if_pos, if_neg, decide_eq_true_eq]
theorem notesOf_c (lv N : Nat) (b : Int) (h : Hp) (hN : h 187 0 4 = (N : Int)) (hN14 : N ≤ 14) : cl (lv + 3) 181 [aA 12 0, aI b] h = ri ((bsN (atB (h 187 0) b) N : Nat) : Int) h := by
  rw [in_181]
  simp (disch := omega) only [x_1, x_7_2_I, x_7_2_A, x_7_2_U, x_7_3_I, x_7_3_A, x_7_3_U, x_61, x_4_3, x_6_0, x_34, x_38_187, x_65, x_4_2, x_79_2_12_d0, x_79_2_12_d1, x_79_2_12_d2, x_79_2_12_d3, x_79_2_12_d4, x_68, x_79_3_12_d0, x_79_3_12_d1, x_79_3_12_d2, x_79_3_12_d3, x_79_3_12_d4, x_4_1, x_63, x_20, x_60, x_18, x_10_3_I, x_10_3_A, x_10_3_U, x_82, cb_ri, cb_rl, cb_rv, cb_th, cb_ite, ps_s, ps_n, u_181_0, u_181_39, u_181_40, u_181_48]
  refine loop_up (F := fun i => run (lv + 2) 181 4 [aA 12 0, aI b, aI ((bsN (atB (h 187 0) b) i : Nat) : Int), aI (i : Int)] [] h) (N := N) ?_ ?_ 0 (by omega)
  · intro i hi
    have e := ofNote_c (lv + 1) i 0 h (by omega) (by omega)
    rw [show ((0 : Nat) : Int) = 0 from rfl, Nat.add_zero] at e
    show run _ _ _ _ _ _ = run _ _ _ _ _ _
    rw [hd_181_4]
    by_cases h1 : stB (h 187 0) i = true
    · by_cases h2 : h 187 0 (50 + 4 * i) = b
      · simp (disch := omega) only [x_1, x_7_2_I, x_7_2_A, x_7_2_U, x_7_3_I, x_7_3_A, x_7_3_U, x_61, x_4_3, x_6_0, x_34, x_38_187, x_65, x_4_2, x_79_2_12_d0, x_79_2_12_d1, x_79_2_12_d2, x_79_2_12_d3, x_79_2_12_d4, x_68, x_79_3_12_d0, x_79_3_12_d1, x_79_3_12_d2, x_79_3_12_d3, x_79_3_12_d4, x_4_1, x_63, x_20, x_60, x_18, x_10_3_I, x_10_3_A, x_10_3_U, x_82, cb_ri, cb_rl, cb_rv, cb_th, cb_ite, ps_s, ps_n, u_181_0, u_181_39, u_181_40, u_181_48, stands_c, e, h1, h2, Int.reduceEq, Int.reduceLT, Int.reduceLE, reduceIte, Int.reduceAdd, Int.reduceSub, Int.reduceMul, Int.reduceNeg, Int.reduceToNat, Bool.false_eq_true, eq_self, if_pos, if_neg, hN, ci, w32_id]
        rw [bs_or _ (by omega), bs_s _ (by simp [atB, h1, h2])]
      · simp (disch := omega) only [x_1, x_7_2_I, x_7_2_A, x_7_2_U, x_7_3_I, x_7_3_A, x_7_3_U, x_61, x_4_3, x_6_0, x_34, x_38_187, x_65, x_4_2, x_79_2_12_d0, x_79_2_12_d1, x_79_2_12_d2, x_79_2_12_d3, x_79_2_12_d4, x_68, x_79_3_12_d0, x_79_3_12_d1, x_79_3_12_d2, x_79_3_12_d3, x_79_3_12_d4, x_4_1, x_63, x_20, x_60, x_18, x_10_3_I, x_10_3_A, x_10_3_U, x_82, cb_ri, cb_rl, cb_rv, cb_th, cb_ite, ps_s, ps_n, u_181_0, u_181_39, u_181_40, u_181_48, stands_c, e, h1, h2, Int.reduceEq, Int.reduceLT, Int.reduceLE, reduceIte, Int.reduceAdd, Int.reduceSub, Int.reduceMul, Int.reduceNeg, Int.reduceToNat, Bool.false_eq_true, eq_self, if_pos, if_neg, hN, ci, w32_id]
        rw [show (0 : Int) = ((0 : Nat) : Int) from rfl, ior_n (bsN_mono _ (by omega)) (by omega), Nat.or_zero, bs_f _ (by simp [atB, h1, h2])]
    · simp (disch := omega) only [x_1, x_7_2_I, x_7_2_A, x_7_2_U, x_7_3_I, x_7_3_A, x_7_3_U, x_61, x_4_3, x_6_0, x_34, x_38_187, x_65, x_4_2, x_79_2_12_d0, x_79_2_12_d1, x_79_2_12_d2, x_79_2_12_d3, x_79_2_12_d4, x_68, x_79_3_12_d0, x_79_3_12_d1, x_79_3_12_d2, x_79_3_12_d3, x_79_3_12_d4, x_4_1, x_63, x_20, x_60, x_18, x_10_3_I, x_10_3_A, x_10_3_U, x_82, cb_ri, cb_rl, cb_rv, cb_th, cb_ite, ps_s, ps_n, u_181_0, u_181_39, u_181_40, u_181_48, stands_c, e, h1, Int.reduceEq, Int.reduceLT, Int.reduceLE, reduceIte, Int.reduceAdd, Int.reduceSub, Int.reduceMul, Int.reduceNeg, Int.reduceToNat, Bool.false_eq_true, eq_self, if_pos, if_neg, hN, ci, w32_id]
      rw [show (0 : Int) = ((0 : Nat) : Int) from rfl, ior_n (bsN_mono _ (by omega)) (by omega), Nat.or_zero, bs_f _ (by simp [atB, h1])]
  · show run _ _ _ _ _ _ = _
    rw [hd_181_4]
    simp (disch := omega) only [x_1, x_7_2_I, x_7_2_A, x_7_2_U, x_7_3_I, x_7_3_A, x_7_3_U, x_61, x_4_3, x_6_0, x_34, x_38_187, x_65, x_4_2, x_79_2_12_d0, x_79_2_12_d1, x_79_2_12_d2, x_79_2_12_d3, x_79_2_12_d4, x_68, x_79_3_12_d0, x_79_3_12_d1, x_79_3_12_d2, x_79_3_12_d3, x_79_3_12_d4, x_4_1, x_63, x_20, x_60, x_18, x_10_3_I, x_10_3_A, x_10_3_U, x_82, cb_ri, cb_rl, cb_rv, cb_th, cb_ite, ps_s, ps_n, u_181_0, u_181_39, u_181_40, u_181_48, Int.reduceEq, Int.reduceLT, Int.reduceLE, reduceIte, Int.reduceAdd, Int.reduceSub, Int.reduceMul, Int.reduceNeg, Int.reduceToNat, Bool.false_eq_true, eq_self, if_pos, if_neg, hN]
theorem isThere_c (lv N : Nat) (key b but : Int) (h : Hp) (hN : h 187 0 4 = (N : Int)) (hN14 : N ≤ 14) : cl (lv + 3) 182 [aA 12 0, aI key, aI b, aI but] h = ri (if anyB (thB (h 187 0) key b but) N = true then 1 else 0) h := by
  rw [in_182]
  simp (disch := omega) only [x_1, x_7_4_I, x_7_4_A, x_7_4_U, x_7_5_I, x_7_5_A, x_7_5_U, x_61, x_4_5, x_6_0, x_34, x_38_187, x_65, x_4_4, x_69, x_4_3, x_62, x_79_2_12_d0, x_79_2_12_d1, x_79_2_12_d2, x_79_2_12_d3, x_79_2_12_d4, x_68, x_79_3_12_d0, x_79_3_12_d1, x_79_3_12_d2, x_79_3_12_d3, x_79_3_12_d4, x_4_2, x_63, x_4_1, x_60, x_10_5_I, x_10_5_A, x_10_5_U, x_85, cb_ri, cb_rl, cb_rv, cb_th, cb_ite, ps_s, ps_n, u_182_0, u_182_59, u_182_63, u_182_64, u_182_72]
  refine loop_up (F := fun i => run (lv + 2) 182 6 [aA 12 0, aI key, aI b, aI but, aI (if anyB (thB (h 187 0) key b but) i = true then 1 else 0), aI (i : Int)] [] h) (N := N) ?_ ?_ 0 (by omega)
  · intro i hi
    have e := ofNote_c (lv + 1) i 0 h (by omega) (by omega)
    rw [show ((0 : Nat) : Int) = 0 from rfl, Nat.add_zero] at e
    have e1 := ofNote_c (lv + 1) i 1 h (by omega) (by omega)
    rw [show ((1 : Nat) : Int) = 1 from rfl] at e1
    show run _ _ _ _ _ _ = run _ _ _ _ _ _
    rw [hd_182_6]
    by_cases h0 : anyB (thB (h 187 0) key b but) i = true
    · simp (disch := omega) only [x_1, x_7_4_I, x_7_4_A, x_7_4_U, x_7_5_I, x_7_5_A, x_7_5_U, x_61, x_4_5, x_6_0, x_34, x_38_187, x_65, x_4_4, x_69, x_4_3, x_62, x_79_2_12_d0, x_79_2_12_d1, x_79_2_12_d2, x_79_2_12_d3, x_79_2_12_d4, x_68, x_79_3_12_d0, x_79_3_12_d1, x_79_3_12_d2, x_79_3_12_d3, x_79_3_12_d4, x_4_2, x_63, x_4_1, x_60, x_10_5_I, x_10_5_A, x_10_5_U, x_85, cb_ri, cb_rl, cb_rv, cb_th, cb_ite, ps_s, ps_n, u_182_0, u_182_59, u_182_63, u_182_64, u_182_72, anyB, h0, Bool.true_or, Int.reduceEq, Int.reduceLT, Int.reduceLE, reduceIte, Int.reduceAdd, Int.reduceSub, Int.reduceMul, Int.reduceNeg, Int.reduceToNat, Bool.false_eq_true, eq_self, if_pos, if_neg, hN, ci, w32_id]
    · by_cases h1 : (i : Int) = but
      · simp (disch := omega) only [x_1, x_7_4_I, x_7_4_A, x_7_4_U, x_7_5_I, x_7_5_A, x_7_5_U, x_61, x_4_5, x_6_0, x_34, x_38_187, x_65, x_4_4, x_69, x_4_3, x_62, x_79_2_12_d0, x_79_2_12_d1, x_79_2_12_d2, x_79_2_12_d3, x_79_2_12_d4, x_68, x_79_3_12_d0, x_79_3_12_d1, x_79_3_12_d2, x_79_3_12_d3, x_79_3_12_d4, x_4_2, x_63, x_4_1, x_60, x_10_5_I, x_10_5_A, x_10_5_U, x_85, cb_ri, cb_rl, cb_rv, cb_th, cb_ite, ps_s, ps_n, u_182_0, u_182_59, u_182_63, u_182_64, u_182_72, anyB, thB, h0, h1, Int.reduceEq, Int.reduceLT, Int.reduceLE, reduceIte, Int.reduceAdd, Int.reduceSub, Int.reduceMul, Int.reduceNeg, Int.reduceToNat, Bool.false_eq_true, eq_self, if_pos, if_neg, hN, ci, w32_id, Bool.false_or, ne_eq, not_true_eq_false, decide_false, Bool.false_and]
        simp only [← h1, ci]
      · by_cases h2 : stB (h 187 0) i = true
        · by_cases h3 : h 187 0 (50 + 4 * i) = b
          · by_cases h4 : h 187 0 (50 + 4 * i + 1) = key
            · have hp : thB (h 187 0) key b but i = true := by simp [thB, atB, h1, h2, h3, h4]
              simp (disch := omega) only [x_1, x_7_4_I, x_7_4_A, x_7_4_U, x_7_5_I, x_7_5_A, x_7_5_U, x_61, x_4_5, x_6_0, x_34, x_38_187, x_65, x_4_4, x_69, x_4_3, x_62, x_79_2_12_d0, x_79_2_12_d1, x_79_2_12_d2, x_79_2_12_d3, x_79_2_12_d4, x_68, x_79_3_12_d0, x_79_3_12_d1, x_79_3_12_d2, x_79_3_12_d3, x_79_3_12_d4, x_4_2, x_63, x_4_1, x_60, x_10_5_I, x_10_5_A, x_10_5_U, x_85, cb_ri, cb_rl, cb_rv, cb_th, cb_ite, ps_s, ps_n, u_182_0, u_182_59, u_182_63, u_182_64, u_182_72, anyB, h0, h1, stands_c, e, e1, h2, h3, h4, hp, Bool.or_true, Int.reduceEq, Int.reduceLT, Int.reduceLE, reduceIte, Int.reduceAdd, Int.reduceSub, Int.reduceMul, Int.reduceNeg, Int.reduceToNat, Bool.false_eq_true, eq_self, if_pos, if_neg, hN, ci, w32_id]
            · have hp : thB (h 187 0) key b but i = false := by simp [thB, atB, h1, h2, h3, h4]
              simp (disch := omega) only [x_1, x_7_4_I, x_7_4_A, x_7_4_U, x_7_5_I, x_7_5_A, x_7_5_U, x_61, x_4_5, x_6_0, x_34, x_38_187, x_65, x_4_4, x_69, x_4_3, x_62, x_79_2_12_d0, x_79_2_12_d1, x_79_2_12_d2, x_79_2_12_d3, x_79_2_12_d4, x_68, x_79_3_12_d0, x_79_3_12_d1, x_79_3_12_d2, x_79_3_12_d3, x_79_3_12_d4, x_4_2, x_63, x_4_1, x_60, x_10_5_I, x_10_5_A, x_10_5_U, x_85, cb_ri, cb_rl, cb_rv, cb_th, cb_ite, ps_s, ps_n, u_182_0, u_182_59, u_182_63, u_182_64, u_182_72, anyB, h0, h1, stands_c, e, e1, h2, h3, h4, hp, Bool.or_false, Int.reduceEq, Int.reduceLT, Int.reduceLE, reduceIte, Int.reduceAdd, Int.reduceSub, Int.reduceMul, Int.reduceNeg, Int.reduceToNat, Bool.false_eq_true, eq_self, if_pos, if_neg, hN, ci, w32_id]
          · have hp : thB (h 187 0) key b but i = false := by simp [thB, atB, h1, h2, h3]
            simp (disch := omega) only [x_1, x_7_4_I, x_7_4_A, x_7_4_U, x_7_5_I, x_7_5_A, x_7_5_U, x_61, x_4_5, x_6_0, x_34, x_38_187, x_65, x_4_4, x_69, x_4_3, x_62, x_79_2_12_d0, x_79_2_12_d1, x_79_2_12_d2, x_79_2_12_d3, x_79_2_12_d4, x_68, x_79_3_12_d0, x_79_3_12_d1, x_79_3_12_d2, x_79_3_12_d3, x_79_3_12_d4, x_4_2, x_63, x_4_1, x_60, x_10_5_I, x_10_5_A, x_10_5_U, x_85, cb_ri, cb_rl, cb_rv, cb_th, cb_ite, ps_s, ps_n, u_182_0, u_182_59, u_182_63, u_182_64, u_182_72, anyB, h0, h1, stands_c, e, e1, h2, h3, hp, Bool.or_false, Int.reduceEq, Int.reduceLT, Int.reduceLE, reduceIte, Int.reduceAdd, Int.reduceSub, Int.reduceMul, Int.reduceNeg, Int.reduceToNat, Bool.false_eq_true, eq_self, if_pos, if_neg, hN, ci, w32_id]
        · have hp : thB (h 187 0) key b but i = false := by simp [thB, atB, h1, h2]
          simp (disch := omega) only [x_1, x_7_4_I, x_7_4_A, x_7_4_U, x_7_5_I, x_7_5_A, x_7_5_U, x_61, x_4_5, x_6_0, x_34, x_38_187, x_65, x_4_4, x_69, x_4_3, x_62, x_79_2_12_d0, x_79_2_12_d1, x_79_2_12_d2, x_79_2_12_d3, x_79_2_12_d4, x_68, x_79_3_12_d0, x_79_3_12_d1, x_79_3_12_d2, x_79_3_12_d3, x_79_3_12_d4, x_4_2, x_63, x_4_1, x_60, x_10_5_I, x_10_5_A, x_10_5_U, x_85, cb_ri, cb_rl, cb_rv, cb_th, cb_ite, ps_s, ps_n, u_182_0, u_182_59, u_182_63, u_182_64, u_182_72, anyB, h0, h1, stands_c, e, e1, h2, hp, Bool.or_false, Int.reduceEq, Int.reduceLT, Int.reduceLE, reduceIte, Int.reduceAdd, Int.reduceSub, Int.reduceMul, Int.reduceNeg, Int.reduceToNat, Bool.false_eq_true, eq_self, if_pos, if_neg, hN, ci, w32_id]
  · show run _ _ _ _ _ _ = _
    rw [hd_182_6]
    simp (disch := (first | omega | (split <;> omega))) only [x_1, x_7_4_I, x_7_4_A, x_7_4_U, x_7_5_I, x_7_5_A, x_7_5_U, x_61, x_4_5, x_6_0, x_34, x_38_187, x_65, x_4_4, x_69, x_4_3, x_62, x_79_2_12_d0, x_79_2_12_d1, x_79_2_12_d2, x_79_2_12_d3, x_79_2_12_d4, x_68, x_79_3_12_d0, x_79_3_12_d1, x_79_3_12_d2, x_79_3_12_d3, x_79_3_12_d4, x_4_2, x_63, x_4_1, x_60, x_10_5_I, x_10_5_A, x_10_5_U, x_85, cb_ri, cb_rl, cb_rv, cb_th, cb_ite, ps_s, ps_n, u_182_0, u_182_59, u_182_63, u_182_64, u_182_72, Int.reduceEq, Int.reduceLT, Int.reduceLE, reduceIte, Int.reduceAdd, Int.reduceSub, Int.reduceMul, Int.reduceNeg, Int.reduceToNat, Bool.false_eq_true, eq_self, if_pos, if_neg, hN]
