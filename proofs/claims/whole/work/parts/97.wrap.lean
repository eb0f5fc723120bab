/-! THE LAW'S WRAPPERS. -/
theorem t0_pos {e : Nat} (h : 0 < t0 e) : e = 0 := by
  unfold t0 at h
  repeat' (split at h)
  all_goals omega
theorem t2_pos {e : Nat} (h : 0 < t2 e) : e = 2 := by
  unfold t2 at h
  repeat' (split at h)
  all_goals omega
theorem t4_pos {e : Nat} (h : 0 < t4 e) : e = 4 := by
  unfold t4 at h
  repeat' (split at h)
  all_goals omega
theorem t03_pos {e : Nat} (h : 0 < t03 e) : e = 0 ∨ e = 3 := by
  unfold t03 at h
  repeat' (split at h)
  all_goals omega
theorem t20_pos {e : Nat} (h : 0 < t20 e) : e = 2 ∨ e = 0 := by
  unfold t20 at h
  repeat' (split at h)
  all_goals omega
theorem t21_pos {e : Nat} (h : 0 < t21 e) : e = 2 ∨ e = 1 := by
  unfold t21 at h
  repeat' (split at h)
  all_goals omega
theorem t24_pos {e : Nat} (h : 0 < t24 e) : e = 2 ∨ e = 4 := by
  unfold t24 at h
  repeat' (split at h)
  all_goals omega
theorem t201_pos {e : Nat} (h : 0 < t201 e) : e = 2 ∨ e = 0 ∨ e = 1 := by
  unfold t201 at h
  repeat' (split at h)
  all_goals omega
theorem t204_pos {e : Nat} (h : 0 < t204 e) : e = 2 ∨ e = 0 ∨ e = 4 := by
  unfold t204 at h
  repeat' (split at h)
  all_goals omega
theorem cb_r1 {x : Int} {h : Hp} {kr : Option AV → Hp → Option Rs} {ke : Nat → Hp → Option Rs} : cbind (addc 1 (ri x h)) kr ke = addc 1 (kr (some (aI x)) h) := id rfl
theorem wa_piece (lv : Nat) (h h1 : Hp) (v : Int) (c : cl (lv + 1) 86 [aA 11 0] h = ri v h1) : cl (lv + 2) 330 [aA 11 0, aA 25 0] h = ri 0 (hset h1 25 0 0 v) := by
  rw [in_330]
  simp (disch := omega) only [x_6_1, x_1, x_6_0, x_81_1_d0, x_81_1_d1, x_81_1_d2, x_81_1_d3, x_81_1_d4, x_23, x_43, x_60, x_9_2_I, x_9n_2_I, x_9_2_A, x_9n_2_A, x_9_2_U, x_9n_2_U, x_82, cb_ri, cb_rl, cb_rv, cb_th, cb_ite, ps_s, ps_n, u_330_0, u_330_11, u_330_14, u_330_17, c, Int.reduceEq, Int.reduceLT, Int.reduceLE, reduceIte, Int.reduceAdd, Int.reduceSub, Int.reduceMul, Int.reduceNeg, Int.reduceToNat, Bool.false_eq_true, eq_self, if_pos, if_neg]
theorem wb_piece (lv : Nat) (h h1 : Hp) (e : Nat) (c : cl (lv + 1) 86 [aA 11 0] h = th e h1) (hT : 0 < t03 e) : cl (lv + 2) 330 [aA 11 0, aA 25 0] h = addc 1 (ri (t03 e : Int) h1) := by
  rw [in_330]
  rcases t03_pos hT with rfl | rfl
  · simp (disch := omega) only [x_6_1, x_1, x_6_0, x_81_1_d0, x_81_1_d1, x_81_1_d2, x_81_1_d3, x_81_1_d4, x_23, x_43, x_60, x_9_2_I, x_9n_2_I, x_9_2_A, x_9n_2_A, x_9_2_U, x_9n_2_U, x_82, cb_ri, cb_rl, cb_rv, cb_th, cb_ite, ps_s, ps_n, u_330_0, u_330_17, c, cb_thH, Int.reduceEq, Int.reduceLT, Int.reduceLE, reduceIte, Int.reduceAdd, Int.reduceSub, Int.reduceMul, Int.reduceNeg, Int.reduceToNat, Bool.false_eq_true, eq_self, if_pos, if_neg]
    show addc 1 (run (lv + 1) 330 11 [aA 11 0, aA 25 0, none] [none] h1) = _
    simp (disch := omega) only [x_6_1, x_1, x_6_0, x_81_1_d0, x_81_1_d1, x_81_1_d2, x_81_1_d3, x_81_1_d4, x_23, x_43, x_60, x_9_2_I, x_9n_2_I, x_9_2_A, x_9n_2_A, x_9_2_U, x_9n_2_U, x_82, cb_ri, cb_rl, cb_rv, cb_th, cb_ite, ps_s, ps_n, u_330_0, u_330_11, u_330_14, u_330_17, Int.reduceEq, Int.reduceLT, Int.reduceLE, reduceIte, Int.reduceAdd, Int.reduceSub, Int.reduceMul, Int.reduceNeg, Int.reduceToNat, Bool.false_eq_true, eq_self, if_pos, if_neg]
    rfl
  · simp (disch := omega) only [x_6_1, x_1, x_6_0, x_81_1_d0, x_81_1_d1, x_81_1_d2, x_81_1_d3, x_81_1_d4, x_23, x_43, x_60, x_9_2_I, x_9n_2_I, x_9_2_A, x_9n_2_A, x_9_2_U, x_9n_2_U, x_82, cb_ri, cb_rl, cb_rv, cb_th, cb_ite, ps_s, ps_n, u_330_0, u_330_17, c, cb_thH, Int.reduceEq, Int.reduceLT, Int.reduceLE, reduceIte, Int.reduceAdd, Int.reduceSub, Int.reduceMul, Int.reduceNeg, Int.reduceToNat, Bool.false_eq_true, eq_self, if_pos, if_neg]
    show addc 1 (run (lv + 1) 330 14 [aA 11 0, aA 25 0, none] [none] h1) = _
    simp (disch := omega) only [x_6_1, x_1, x_6_0, x_81_1_d0, x_81_1_d1, x_81_1_d2, x_81_1_d3, x_81_1_d4, x_23, x_43, x_60, x_9_2_I, x_9n_2_I, x_9_2_A, x_9n_2_A, x_9_2_U, x_9n_2_U, x_82, cb_ri, cb_rl, cb_rv, cb_th, cb_ite, ps_s, ps_n, u_330_0, u_330_11, u_330_14, u_330_17, Int.reduceEq, Int.reduceLT, Int.reduceLE, reduceIte, Int.reduceAdd, Int.reduceSub, Int.reduceMul, Int.reduceNeg, Int.reduceToNat, Bool.false_eq_true, eq_self, if_pos, if_neg]
    rfl
theorem wa_law (lv : Nat) (h h1 : Hp) (v : Int) (c : cl (lv + 1) 87 [aA 11 0] h = ri v h1) : cl (lv + 2) 331 [aA 11 0, aA 25 0] h = ri 0 (hset h1 25 0 0 v) := by
  rw [in_331]
  simp (disch := omega) only [x_6_1, x_1, x_6_0, x_81_1_d0, x_81_1_d1, x_81_1_d2, x_81_1_d3, x_81_1_d4, x_23, x_43, x_60, x_9_2_I, x_9n_2_I, x_9_2_A, x_9n_2_A, x_9_2_U, x_9n_2_U, x_82, cb_ri, cb_rl, cb_rv, cb_th, cb_ite, ps_s, ps_n, u_331_0, u_331_11, u_331_14, c, Int.reduceEq, Int.reduceLT, Int.reduceLE, reduceIte, Int.reduceAdd, Int.reduceSub, Int.reduceMul, Int.reduceNeg, Int.reduceToNat, Bool.false_eq_true, eq_self, if_pos, if_neg]
theorem wb_law (lv : Nat) (h h1 : Hp) (e : Nat) (c : cl (lv + 1) 87 [aA 11 0] h = th e h1) (hT : 0 < t0 e) : cl (lv + 2) 331 [aA 11 0, aA 25 0] h = addc 1 (ri (t0 e : Int) h1) := by
  rw [in_331]
  cases t0_pos hT
  · simp (disch := omega) only [x_6_1, x_1, x_6_0, x_81_1_d0, x_81_1_d1, x_81_1_d2, x_81_1_d3, x_81_1_d4, x_23, x_43, x_60, x_9_2_I, x_9n_2_I, x_9_2_A, x_9n_2_A, x_9_2_U, x_9n_2_U, x_82, cb_ri, cb_rl, cb_rv, cb_th, cb_ite, ps_s, ps_n, u_331_0, u_331_14, c, cb_thH, Int.reduceEq, Int.reduceLT, Int.reduceLE, reduceIte, Int.reduceAdd, Int.reduceSub, Int.reduceMul, Int.reduceNeg, Int.reduceToNat, Bool.false_eq_true, eq_self, if_pos, if_neg]
    show addc 1 (run (lv + 1) 331 11 [aA 11 0, aA 25 0, none] [none] h1) = _
    simp (disch := omega) only [x_6_1, x_1, x_6_0, x_81_1_d0, x_81_1_d1, x_81_1_d2, x_81_1_d3, x_81_1_d4, x_23, x_43, x_60, x_9_2_I, x_9n_2_I, x_9_2_A, x_9n_2_A, x_9_2_U, x_9n_2_U, x_82, cb_ri, cb_rl, cb_rv, cb_th, cb_ite, ps_s, ps_n, u_331_0, u_331_11, u_331_14, Int.reduceEq, Int.reduceLT, Int.reduceLE, reduceIte, Int.reduceAdd, Int.reduceSub, Int.reduceMul, Int.reduceNeg, Int.reduceToNat, Bool.false_eq_true, eq_self, if_pos, if_neg]
    rfl
theorem wa_hand (lv : Nat) (x1 x2 : Int) (h h1 : Hp) (v : Int) (c : cl (lv + 1) 89 [aA 11 0, aI x1, aI x2] h = ri v h1) : cl (lv + 2) 332 [aA 11 0, aI x1, aI x2, aA 25 0] h = ri 0 (hset h1 25 0 0 v) := by
  rw [in_332]
  simp (disch := omega) only [x_6_3, x_1, x_6_0, x_4_1, x_4_2, x_81_3_d0, x_81_3_d1, x_81_3_d2, x_81_3_d3, x_81_3_d4, x_23, x_43, x_60, x_9_4_I, x_9n_4_I, x_9_4_A, x_9n_4_A, x_9_4_U, x_9n_4_U, x_82, cb_ri, cb_rl, cb_rv, cb_th, cb_ite, ps_s, ps_n, u_332_0, u_332_13, u_332_17, u_332_21, c, Int.reduceEq, Int.reduceLT, Int.reduceLE, reduceIte, Int.reduceAdd, Int.reduceSub, Int.reduceMul, Int.reduceNeg, Int.reduceToNat, Bool.false_eq_true, eq_self, if_pos, if_neg]
theorem wb_hand (lv : Nat) (x1 x2 : Int) (h h1 : Hp) (e : Nat) (c : cl (lv + 1) 89 [aA 11 0, aI x1, aI x2] h = th e h1) (hT : 0 < t24 e) : cl (lv + 2) 332 [aA 11 0, aI x1, aI x2, aA 25 0] h = addc 1 (ri (t24 e : Int) h1) := by
  rw [in_332]
  rcases t24_pos hT with rfl | rfl
  · simp (disch := omega) only [x_6_3, x_1, x_6_0, x_4_1, x_4_2, x_81_3_d0, x_81_3_d1, x_81_3_d2, x_81_3_d3, x_81_3_d4, x_23, x_43, x_60, x_9_4_I, x_9n_4_I, x_9_4_A, x_9n_4_A, x_9_4_U, x_9n_4_U, x_82, cb_ri, cb_rl, cb_rv, cb_th, cb_ite, ps_s, ps_n, u_332_0, u_332_21, c, cb_thH, Int.reduceEq, Int.reduceLT, Int.reduceLE, reduceIte, Int.reduceAdd, Int.reduceSub, Int.reduceMul, Int.reduceNeg, Int.reduceToNat, Bool.false_eq_true, eq_self, if_pos, if_neg]
    show addc 1 (run (lv + 1) 332 13 [aA 11 0, aI x1, aI x2, aA 25 0, none] [none] h1) = _
    simp (disch := omega) only [x_6_3, x_1, x_6_0, x_4_1, x_4_2, x_81_3_d0, x_81_3_d1, x_81_3_d2, x_81_3_d3, x_81_3_d4, x_23, x_43, x_60, x_9_4_I, x_9n_4_I, x_9_4_A, x_9n_4_A, x_9_4_U, x_9n_4_U, x_82, cb_ri, cb_rl, cb_rv, cb_th, cb_ite, ps_s, ps_n, u_332_0, u_332_13, u_332_17, u_332_21, Int.reduceEq, Int.reduceLT, Int.reduceLE, reduceIte, Int.reduceAdd, Int.reduceSub, Int.reduceMul, Int.reduceNeg, Int.reduceToNat, Bool.false_eq_true, eq_self, if_pos, if_neg]
    rfl
  · simp (disch := omega) only [x_6_3, x_1, x_6_0, x_4_1, x_4_2, x_81_3_d0, x_81_3_d1, x_81_3_d2, x_81_3_d3, x_81_3_d4, x_23, x_43, x_60, x_9_4_I, x_9n_4_I, x_9_4_A, x_9n_4_A, x_9_4_U, x_9n_4_U, x_82, cb_ri, cb_rl, cb_rv, cb_th, cb_ite, ps_s, ps_n, u_332_0, u_332_21, c, cb_thH, Int.reduceEq, Int.reduceLT, Int.reduceLE, reduceIte, Int.reduceAdd, Int.reduceSub, Int.reduceMul, Int.reduceNeg, Int.reduceToNat, Bool.false_eq_true, eq_self, if_pos, if_neg]
    show addc 1 (run (lv + 1) 332 17 [aA 11 0, aI x1, aI x2, aA 25 0, none] [none] h1) = _
    simp (disch := omega) only [x_6_3, x_1, x_6_0, x_4_1, x_4_2, x_81_3_d0, x_81_3_d1, x_81_3_d2, x_81_3_d3, x_81_3_d4, x_23, x_43, x_60, x_9_4_I, x_9n_4_I, x_9_4_A, x_9n_4_A, x_9_4_U, x_9n_4_U, x_82, cb_ri, cb_rl, cb_rv, cb_th, cb_ite, ps_s, ps_n, u_332_0, u_332_13, u_332_17, u_332_21, Int.reduceEq, Int.reduceLT, Int.reduceLE, reduceIte, Int.reduceAdd, Int.reduceSub, Int.reduceMul, Int.reduceNeg, Int.reduceToNat, Bool.false_eq_true, eq_self, if_pos, if_neg]
    rfl
theorem wa_note (lv : Nat) (x1 x2 : Int) (h h1 : Hp) (v : Int) (c : cl (lv + 1) 90 [aA 11 0, aI x1, aI x2] h = ri v h1) : cl (lv + 2) 333 [aA 11 0, aI x1, aI x2, aA 25 0] h = ri 0 (hset h1 25 0 0 v) := by
  rw [in_333]
  simp (disch := omega) only [x_6_3, x_1, x_6_0, x_4_1, x_4_2, x_81_3_d0, x_81_3_d1, x_81_3_d2, x_81_3_d3, x_81_3_d4, x_23, x_43, x_60, x_9_4_I, x_9n_4_I, x_9_4_A, x_9n_4_A, x_9_4_U, x_9n_4_U, x_82, cb_ri, cb_rl, cb_rv, cb_th, cb_ite, ps_s, ps_n, u_333_0, u_333_13, u_333_17, u_333_21, c, Int.reduceEq, Int.reduceLT, Int.reduceLE, reduceIte, Int.reduceAdd, Int.reduceSub, Int.reduceMul, Int.reduceNeg, Int.reduceToNat, Bool.false_eq_true, eq_self, if_pos, if_neg]
theorem wb_note (lv : Nat) (x1 x2 : Int) (h h1 : Hp) (e : Nat) (c : cl (lv + 1) 90 [aA 11 0, aI x1, aI x2] h = th e h1) (hT : 0 < t24 e) : cl (lv + 2) 333 [aA 11 0, aI x1, aI x2, aA 25 0] h = addc 1 (ri (t24 e : Int) h1) := by
  rw [in_333]
  rcases t24_pos hT with rfl | rfl
  · simp (disch := omega) only [x_6_3, x_1, x_6_0, x_4_1, x_4_2, x_81_3_d0, x_81_3_d1, x_81_3_d2, x_81_3_d3, x_81_3_d4, x_23, x_43, x_60, x_9_4_I, x_9n_4_I, x_9_4_A, x_9n_4_A, x_9_4_U, x_9n_4_U, x_82, cb_ri, cb_rl, cb_rv, cb_th, cb_ite, ps_s, ps_n, u_333_0, u_333_21, c, cb_thH, Int.reduceEq, Int.reduceLT, Int.reduceLE, reduceIte, Int.reduceAdd, Int.reduceSub, Int.reduceMul, Int.reduceNeg, Int.reduceToNat, Bool.false_eq_true, eq_self, if_pos, if_neg]
    show addc 1 (run (lv + 1) 333 13 [aA 11 0, aI x1, aI x2, aA 25 0, none] [none] h1) = _
    simp (disch := omega) only [x_6_3, x_1, x_6_0, x_4_1, x_4_2, x_81_3_d0, x_81_3_d1, x_81_3_d2, x_81_3_d3, x_81_3_d4, x_23, x_43, x_60, x_9_4_I, x_9n_4_I, x_9_4_A, x_9n_4_A, x_9_4_U, x_9n_4_U, x_82, cb_ri, cb_rl, cb_rv, cb_th, cb_ite, ps_s, ps_n, u_333_0, u_333_13, u_333_17, u_333_21, Int.reduceEq, Int.reduceLT, Int.reduceLE, reduceIte, Int.reduceAdd, Int.reduceSub, Int.reduceMul, Int.reduceNeg, Int.reduceToNat, Bool.false_eq_true, eq_self, if_pos, if_neg]
    rfl
  · simp (disch := omega) only [x_6_3, x_1, x_6_0, x_4_1, x_4_2, x_81_3_d0, x_81_3_d1, x_81_3_d2, x_81_3_d3, x_81_3_d4, x_23, x_43, x_60, x_9_4_I, x_9n_4_I, x_9_4_A, x_9n_4_A, x_9_4_U, x_9n_4_U, x_82, cb_ri, cb_rl, cb_rv, cb_th, cb_ite, ps_s, ps_n, u_333_0, u_333_21, c, cb_thH, Int.reduceEq, Int.reduceLT, Int.reduceLE, reduceIte, Int.reduceAdd, Int.reduceSub, Int.reduceMul, Int.reduceNeg, Int.reduceToNat, Bool.false_eq_true, eq_self, if_pos, if_neg]
    show addc 1 (run (lv + 1) 333 17 [aA 11 0, aI x1, aI x2, aA 25 0, none] [none] h1) = _
    simp (disch := omega) only [x_6_3, x_1, x_6_0, x_4_1, x_4_2, x_81_3_d0, x_81_3_d1, x_81_3_d2, x_81_3_d3, x_81_3_d4, x_23, x_43, x_60, x_9_4_I, x_9n_4_I, x_9_4_A, x_9n_4_A, x_9_4_U, x_9n_4_U, x_82, cb_ri, cb_rl, cb_rv, cb_th, cb_ite, ps_s, ps_n, u_333_0, u_333_13, u_333_17, u_333_21, Int.reduceEq, Int.reduceLT, Int.reduceLE, reduceIte, Int.reduceAdd, Int.reduceSub, Int.reduceMul, Int.reduceNeg, Int.reduceToNat, Bool.false_eq_true, eq_self, if_pos, if_neg]
    rfl
theorem wa_can (lv : Nat) (x1 x2 : Int) (h h1 : Hp) (v : Int) (c : cl (lv + 1) 91 [aA 11 0, aI x1, aI x2] h = ri v h1) (hv : v = 0 ∨ v = 1) : cl (lv + 2) 334 [aA 11 0, aI x1, aI x2, aA 25 0] h = ri 0 (hset h1 25 0 0 v) := by
  rw [in_334]
  rcases hv with rfl | rfl
  · simp (disch := omega) only [x_6_3, x_1, x_6_0, x_4_1, x_4_2, x_81_3_d0, x_81_3_d1, x_81_3_d2, x_81_3_d3, x_81_3_d4, x_68, x_2, x_60, x_61, x_43, x_9_4_I, x_9n_4_I, x_9_4_A, x_9n_4_A, x_9_4_U, x_9n_4_U, x_82, cb_ri, cb_rl, cb_rv, cb_th, cb_ite, ps_s, ps_n, u_334_0, u_334_15, u_334_16, u_334_20, u_334_24, c, Int.reduceEq, Int.reduceLT, Int.reduceLE, reduceIte, Int.reduceAdd, Int.reduceSub, Int.reduceMul, Int.reduceNeg, Int.reduceToNat, Bool.false_eq_true, eq_self, if_pos, if_neg]
  · simp (disch := omega) only [x_6_3, x_1, x_6_0, x_4_1, x_4_2, x_81_3_d0, x_81_3_d1, x_81_3_d2, x_81_3_d3, x_81_3_d4, x_68, x_2, x_60, x_61, x_43, x_9_4_I, x_9n_4_I, x_9_4_A, x_9n_4_A, x_9_4_U, x_9n_4_U, x_82, cb_ri, cb_rl, cb_rv, cb_th, cb_ite, ps_s, ps_n, u_334_0, u_334_15, u_334_16, u_334_20, u_334_24, c, Int.reduceEq, Int.reduceLT, Int.reduceLE, reduceIte, Int.reduceAdd, Int.reduceSub, Int.reduceMul, Int.reduceNeg, Int.reduceToNat, Bool.false_eq_true, eq_self, if_pos, if_neg]
theorem wb_can (lv : Nat) (x1 x2 : Int) (h h1 : Hp) (e : Nat) (c : cl (lv + 1) 91 [aA 11 0, aI x1, aI x2] h = th e h1) (hT : 0 < t2 e) : cl (lv + 2) 334 [aA 11 0, aI x1, aI x2, aA 25 0] h = addc 1 (ri (t2 e : Int) h1) := by
  rw [in_334]
  cases t2_pos hT
  · simp (disch := omega) only [x_6_3, x_1, x_6_0, x_4_1, x_4_2, x_81_3_d0, x_81_3_d1, x_81_3_d2, x_81_3_d3, x_81_3_d4, x_68, x_2, x_60, x_61, x_43, x_9_4_I, x_9n_4_I, x_9_4_A, x_9n_4_A, x_9_4_U, x_9n_4_U, x_82, cb_ri, cb_rl, cb_rv, cb_th, cb_ite, ps_s, ps_n, u_334_0, u_334_15, u_334_16, u_334_24, c, cb_thH, Int.reduceEq, Int.reduceLT, Int.reduceLE, reduceIte, Int.reduceAdd, Int.reduceSub, Int.reduceMul, Int.reduceNeg, Int.reduceToNat, Bool.false_eq_true, eq_self, if_pos, if_neg]
    show addc 1 (run (lv + 1) 334 20 [aA 11 0, aI x1, aI x2, aA 25 0, none] [none] h1) = _
    simp (disch := omega) only [x_6_3, x_1, x_6_0, x_4_1, x_4_2, x_81_3_d0, x_81_3_d1, x_81_3_d2, x_81_3_d3, x_81_3_d4, x_68, x_2, x_60, x_61, x_43, x_9_4_I, x_9n_4_I, x_9_4_A, x_9n_4_A, x_9_4_U, x_9n_4_U, x_82, cb_ri, cb_rl, cb_rv, cb_th, cb_ite, ps_s, ps_n, u_334_0, u_334_15, u_334_16, u_334_20, u_334_24, Int.reduceEq, Int.reduceLT, Int.reduceLE, reduceIte, Int.reduceAdd, Int.reduceSub, Int.reduceMul, Int.reduceNeg, Int.reduceToNat, Bool.false_eq_true, eq_self, if_pos, if_neg]
    rfl
theorem wa_reaches (lv : Nat) (x1 x2 : Int) (h h1 : Hp) (v : Int) (c : cl (lv + 1) 92 [aA 11 0, aI x1, aI x2] h = ri v h1) : cl (lv + 2) 335 [aA 11 0, aI x1, aI x2, aA 25 0] h = ri 0 (hset h1 25 0 0 v) := by
  rw [in_335]
  simp (disch := omega) only [x_6_3, x_1, x_6_0, x_4_1, x_4_2, x_81_3_d0, x_81_3_d1, x_81_3_d2, x_81_3_d3, x_81_3_d4, x_23, x_43, x_60, x_9_4_I, x_9n_4_I, x_9_4_A, x_9n_4_A, x_9_4_U, x_9n_4_U, x_82, cb_ri, cb_rl, cb_rv, cb_th, cb_ite, ps_s, ps_n, u_335_0, u_335_13, u_335_17, c, Int.reduceEq, Int.reduceLT, Int.reduceLE, reduceIte, Int.reduceAdd, Int.reduceSub, Int.reduceMul, Int.reduceNeg, Int.reduceToNat, Bool.false_eq_true, eq_self, if_pos, if_neg]
theorem wb_reaches (lv : Nat) (x1 x2 : Int) (h h1 : Hp) (e : Nat) (c : cl (lv + 1) 92 [aA 11 0, aI x1, aI x2] h = th e h1) (hT : 0 < t2 e) : cl (lv + 2) 335 [aA 11 0, aI x1, aI x2, aA 25 0] h = addc 1 (ri (t2 e : Int) h1) := by
  rw [in_335]
  cases t2_pos hT
  · simp (disch := omega) only [x_6_3, x_1, x_6_0, x_4_1, x_4_2, x_81_3_d0, x_81_3_d1, x_81_3_d2, x_81_3_d3, x_81_3_d4, x_23, x_43, x_60, x_9_4_I, x_9n_4_I, x_9_4_A, x_9n_4_A, x_9_4_U, x_9n_4_U, x_82, cb_ri, cb_rl, cb_rv, cb_th, cb_ite, ps_s, ps_n, u_335_0, u_335_17, c, cb_thH, Int.reduceEq, Int.reduceLT, Int.reduceLE, reduceIte, Int.reduceAdd, Int.reduceSub, Int.reduceMul, Int.reduceNeg, Int.reduceToNat, Bool.false_eq_true, eq_self, if_pos, if_neg]
    show addc 1 (run (lv + 1) 335 13 [aA 11 0, aI x1, aI x2, aA 25 0, none] [none] h1) = _
    simp (disch := omega) only [x_6_3, x_1, x_6_0, x_4_1, x_4_2, x_81_3_d0, x_81_3_d1, x_81_3_d2, x_81_3_d3, x_81_3_d4, x_23, x_43, x_60, x_9_4_I, x_9n_4_I, x_9_4_A, x_9n_4_A, x_9_4_U, x_9n_4_U, x_82, cb_ri, cb_rl, cb_rv, cb_th, cb_ite, ps_s, ps_n, u_335_0, u_335_13, u_335_17, Int.reduceEq, Int.reduceLT, Int.reduceLE, reduceIte, Int.reduceAdd, Int.reduceSub, Int.reduceMul, Int.reduceNeg, Int.reduceToNat, Bool.false_eq_true, eq_self, if_pos, if_neg]
    rfl
theorem wa_turn (lv : Nat) (x1 : Int) (h h1 : Hp) (v : Int) (c : cl (lv + 1) 93 [aA 11 0, aI x1] h = ri v h1) : cl (lv + 2) 336 [aA 11 0, aI x1, aA 25 0] h = ri 0 (hset h1 25 0 0 v) := by
  rw [in_336]
  simp (disch := omega) only [x_6_2, x_1, x_6_0, x_4_1, x_81_2_d0, x_81_2_d1, x_81_2_d2, x_81_2_d3, x_81_2_d4, x_23, x_43, x_60, x_9_3_I, x_9n_3_I, x_9_3_A, x_9n_3_A, x_9_3_U, x_9n_3_U, x_82, cb_ri, cb_rl, cb_rv, cb_th, cb_ite, ps_s, ps_n, u_336_0, u_336_12, u_336_15, c, Int.reduceEq, Int.reduceLT, Int.reduceLE, reduceIte, Int.reduceAdd, Int.reduceSub, Int.reduceMul, Int.reduceNeg, Int.reduceToNat, Bool.false_eq_true, eq_self, if_pos, if_neg]
theorem wb_turn (lv : Nat) (x1 : Int) (h h1 : Hp) (e : Nat) (c : cl (lv + 1) 93 [aA 11 0, aI x1] h = th e h1) (hT : 0 < t0 e) : cl (lv + 2) 336 [aA 11 0, aI x1, aA 25 0] h = addc 1 (ri (t0 e : Int) h1) := by
  rw [in_336]
  cases t0_pos hT
  · simp (disch := omega) only [x_6_2, x_1, x_6_0, x_4_1, x_81_2_d0, x_81_2_d1, x_81_2_d2, x_81_2_d3, x_81_2_d4, x_23, x_43, x_60, x_9_3_I, x_9n_3_I, x_9_3_A, x_9n_3_A, x_9_3_U, x_9n_3_U, x_82, cb_ri, cb_rl, cb_rv, cb_th, cb_ite, ps_s, ps_n, u_336_0, u_336_15, c, cb_thH, Int.reduceEq, Int.reduceLT, Int.reduceLE, reduceIte, Int.reduceAdd, Int.reduceSub, Int.reduceMul, Int.reduceNeg, Int.reduceToNat, Bool.false_eq_true, eq_self, if_pos, if_neg]
    show addc 1 (run (lv + 1) 336 12 [aA 11 0, aI x1, aA 25 0, none] [none] h1) = _
    simp (disch := omega) only [x_6_2, x_1, x_6_0, x_4_1, x_81_2_d0, x_81_2_d1, x_81_2_d2, x_81_2_d3, x_81_2_d4, x_23, x_43, x_60, x_9_3_I, x_9n_3_I, x_9_3_A, x_9n_3_A, x_9_3_U, x_9n_3_U, x_82, cb_ri, cb_rl, cb_rv, cb_th, cb_ite, ps_s, ps_n, u_336_0, u_336_12, u_336_15, Int.reduceEq, Int.reduceLT, Int.reduceLE, reduceIte, Int.reduceAdd, Int.reduceSub, Int.reduceMul, Int.reduceNeg, Int.reduceToNat, Bool.false_eq_true, eq_self, if_pos, if_neg]
    rfl
theorem wa_put (lv : Nat) (x1 x2 : Int) (h h1 : Hp) (v : Int) (c : cl (lv + 1) 94 [aA 11 0, aI x1, aI x2] h = ri v h1) : cl (lv + 2) 337 [aA 11 0, aI x1, aI x2, aA 25 0] h = ri 0 (hset h1 25 0 0 v) := by
  rw [in_337]
  simp (disch := omega) only [x_6_3, x_1, x_6_0, x_4_1, x_4_2, x_81_3_d0, x_81_3_d1, x_81_3_d2, x_81_3_d3, x_81_3_d4, x_23, x_43, x_60, x_9_4_I, x_9n_4_I, x_9_4_A, x_9n_4_A, x_9_4_U, x_9n_4_U, x_82, cb_ri, cb_rl, cb_rv, cb_th, cb_ite, ps_s, ps_n, u_337_0, u_337_13, u_337_17, c, Int.reduceEq, Int.reduceLT, Int.reduceLE, reduceIte, Int.reduceAdd, Int.reduceSub, Int.reduceMul, Int.reduceNeg, Int.reduceToNat, Bool.false_eq_true, eq_self, if_pos, if_neg]
theorem wb_put (lv : Nat) (x1 x2 : Int) (h h1 : Hp) (e : Nat) (c : cl (lv + 1) 94 [aA 11 0, aI x1, aI x2] h = th e h1) (hT : 0 < t2 e) : cl (lv + 2) 337 [aA 11 0, aI x1, aI x2, aA 25 0] h = addc 1 (ri (t2 e : Int) h1) := by
  rw [in_337]
  cases t2_pos hT
  · simp (disch := omega) only [x_6_3, x_1, x_6_0, x_4_1, x_4_2, x_81_3_d0, x_81_3_d1, x_81_3_d2, x_81_3_d3, x_81_3_d4, x_23, x_43, x_60, x_9_4_I, x_9n_4_I, x_9_4_A, x_9n_4_A, x_9_4_U, x_9n_4_U, x_82, cb_ri, cb_rl, cb_rv, cb_th, cb_ite, ps_s, ps_n, u_337_0, u_337_17, c, cb_thH, Int.reduceEq, Int.reduceLT, Int.reduceLE, reduceIte, Int.reduceAdd, Int.reduceSub, Int.reduceMul, Int.reduceNeg, Int.reduceToNat, Bool.false_eq_true, eq_self, if_pos, if_neg]
    show addc 1 (run (lv + 1) 337 13 [aA 11 0, aI x1, aI x2, aA 25 0, none] [none] h1) = _
    simp (disch := omega) only [x_6_3, x_1, x_6_0, x_4_1, x_4_2, x_81_3_d0, x_81_3_d1, x_81_3_d2, x_81_3_d3, x_81_3_d4, x_23, x_43, x_60, x_9_4_I, x_9n_4_I, x_9_4_A, x_9n_4_A, x_9_4_U, x_9n_4_U, x_82, cb_ri, cb_rl, cb_rv, cb_th, cb_ite, ps_s, ps_n, u_337_0, u_337_13, u_337_17, Int.reduceEq, Int.reduceLT, Int.reduceLE, reduceIte, Int.reduceAdd, Int.reduceSub, Int.reduceMul, Int.reduceNeg, Int.reduceToNat, Bool.false_eq_true, eq_self, if_pos, if_neg]
    rfl
theorem wa_rest (lv : Nat) (x1 : Int) (h h1 : Hp) (v : Int) (c : cl (lv + 1) 95 [aA 11 0, aI x1] h = ri v h1) : cl (lv + 2) 338 [aA 11 0, aI x1, aA 25 0] h = ri 0 (hset h1 25 0 0 v) := by
  rw [in_338]
  simp (disch := omega) only [x_6_2, x_1, x_6_0, x_4_1, x_81_2_d0, x_81_2_d1, x_81_2_d2, x_81_2_d3, x_81_2_d4, x_23, x_43, x_60, x_9_3_I, x_9n_3_I, x_9_3_A, x_9n_3_A, x_9_3_U, x_9n_3_U, x_82, cb_ri, cb_rl, cb_rv, cb_th, cb_ite, ps_s, ps_n, u_338_0, u_338_12, u_338_15, c, Int.reduceEq, Int.reduceLT, Int.reduceLE, reduceIte, Int.reduceAdd, Int.reduceSub, Int.reduceMul, Int.reduceNeg, Int.reduceToNat, Bool.false_eq_true, eq_self, if_pos, if_neg]
theorem wb_rest (lv : Nat) (x1 : Int) (h h1 : Hp) (e : Nat) (c : cl (lv + 1) 95 [aA 11 0, aI x1] h = th e h1) (hT : 0 < t2 e) : cl (lv + 2) 338 [aA 11 0, aI x1, aA 25 0] h = addc 1 (ri (t2 e : Int) h1) := by
  rw [in_338]
  cases t2_pos hT
  · simp (disch := omega) only [x_6_2, x_1, x_6_0, x_4_1, x_81_2_d0, x_81_2_d1, x_81_2_d2, x_81_2_d3, x_81_2_d4, x_23, x_43, x_60, x_9_3_I, x_9n_3_I, x_9_3_A, x_9n_3_A, x_9_3_U, x_9n_3_U, x_82, cb_ri, cb_rl, cb_rv, cb_th, cb_ite, ps_s, ps_n, u_338_0, u_338_15, c, cb_thH, Int.reduceEq, Int.reduceLT, Int.reduceLE, reduceIte, Int.reduceAdd, Int.reduceSub, Int.reduceMul, Int.reduceNeg, Int.reduceToNat, Bool.false_eq_true, eq_self, if_pos, if_neg]
    show addc 1 (run (lv + 1) 338 12 [aA 11 0, aI x1, aA 25 0, none] [none] h1) = _
    simp (disch := omega) only [x_6_2, x_1, x_6_0, x_4_1, x_81_2_d0, x_81_2_d1, x_81_2_d2, x_81_2_d3, x_81_2_d4, x_23, x_43, x_60, x_9_3_I, x_9n_3_I, x_9_3_A, x_9n_3_A, x_9_3_U, x_9n_3_U, x_82, cb_ri, cb_rl, cb_rv, cb_th, cb_ite, ps_s, ps_n, u_338_0, u_338_12, u_338_15, Int.reduceEq, Int.reduceLT, Int.reduceLE, reduceIte, Int.reduceAdd, Int.reduceSub, Int.reduceMul, Int.reduceNeg, Int.reduceToNat, Bool.false_eq_true, eq_self, if_pos, if_neg]
    rfl
theorem wa_bind (lv : Nat) (x1 x2 : Int) (h h1 : Hp) (v : Int) (c : cl (lv + 1) 96 [aA 11 0, aI x1, aI x2] h = ri v h1) (hv : v = 0 ∨ v = 1) : cl (lv + 2) 339 [aA 11 0, aI x1, aI x2, aA 25 0] h = ri 0 (hset h1 25 0 0 v) := by
  rw [in_339]
  rcases hv with rfl | rfl
  · simp (disch := omega) only [x_6_3, x_1, x_6_0, x_4_1, x_4_2, x_81_3_d0, x_81_3_d1, x_81_3_d2, x_81_3_d3, x_81_3_d4, x_68, x_2, x_60, x_61, x_43, x_9_4_I, x_9n_4_I, x_9_4_A, x_9n_4_A, x_9_4_U, x_9n_4_U, x_82, cb_ri, cb_rl, cb_rv, cb_th, cb_ite, ps_s, ps_n, u_339_0, u_339_15, u_339_16, u_339_20, u_339_24, c, Int.reduceEq, Int.reduceLT, Int.reduceLE, reduceIte, Int.reduceAdd, Int.reduceSub, Int.reduceMul, Int.reduceNeg, Int.reduceToNat, Bool.false_eq_true, eq_self, if_pos, if_neg]
  · simp (disch := omega) only [x_6_3, x_1, x_6_0, x_4_1, x_4_2, x_81_3_d0, x_81_3_d1, x_81_3_d2, x_81_3_d3, x_81_3_d4, x_68, x_2, x_60, x_61, x_43, x_9_4_I, x_9n_4_I, x_9_4_A, x_9n_4_A, x_9_4_U, x_9n_4_U, x_82, cb_ri, cb_rl, cb_rv, cb_th, cb_ite, ps_s, ps_n, u_339_0, u_339_15, u_339_16, u_339_20, u_339_24, c, Int.reduceEq, Int.reduceLT, Int.reduceLE, reduceIte, Int.reduceAdd, Int.reduceSub, Int.reduceMul, Int.reduceNeg, Int.reduceToNat, Bool.false_eq_true, eq_self, if_pos, if_neg]
theorem wb_bind (lv : Nat) (x1 x2 : Int) (h h1 : Hp) (e : Nat) (c : cl (lv + 1) 96 [aA 11 0, aI x1, aI x2] h = th e h1) (hT : 0 < t2 e) : cl (lv + 2) 339 [aA 11 0, aI x1, aI x2, aA 25 0] h = addc 1 (ri (t2 e : Int) h1) := by
  rw [in_339]
  cases t2_pos hT
  · simp (disch := omega) only [x_6_3, x_1, x_6_0, x_4_1, x_4_2, x_81_3_d0, x_81_3_d1, x_81_3_d2, x_81_3_d3, x_81_3_d4, x_68, x_2, x_60, x_61, x_43, x_9_4_I, x_9n_4_I, x_9_4_A, x_9n_4_A, x_9_4_U, x_9n_4_U, x_82, cb_ri, cb_rl, cb_rv, cb_th, cb_ite, ps_s, ps_n, u_339_0, u_339_15, u_339_16, u_339_24, c, cb_thH, Int.reduceEq, Int.reduceLT, Int.reduceLE, reduceIte, Int.reduceAdd, Int.reduceSub, Int.reduceMul, Int.reduceNeg, Int.reduceToNat, Bool.false_eq_true, eq_self, if_pos, if_neg]
    show addc 1 (run (lv + 1) 339 20 [aA 11 0, aI x1, aI x2, aA 25 0, none] [none] h1) = _
    simp (disch := omega) only [x_6_3, x_1, x_6_0, x_4_1, x_4_2, x_81_3_d0, x_81_3_d1, x_81_3_d2, x_81_3_d3, x_81_3_d4, x_68, x_2, x_60, x_61, x_43, x_9_4_I, x_9n_4_I, x_9_4_A, x_9n_4_A, x_9_4_U, x_9n_4_U, x_82, cb_ri, cb_rl, cb_rv, cb_th, cb_ite, ps_s, ps_n, u_339_0, u_339_15, u_339_16, u_339_20, u_339_24, Int.reduceEq, Int.reduceLT, Int.reduceLE, reduceIte, Int.reduceAdd, Int.reduceSub, Int.reduceMul, Int.reduceNeg, Int.reduceToNat, Bool.false_eq_true, eq_self, if_pos, if_neg]
    rfl
theorem wa_strike (lv : Nat) (x1 x2 : Int) (h h1 : Hp) (v : Int) (c : cl (lv + 1) 97 [aA 11 0, aI x1, aI x2] h = ri v h1) (hv : v = 0 ∨ v = 1) : cl (lv + 2) 340 [aA 11 0, aI x1, aI x2, aA 25 0] h = ri 0 (hset h1 25 0 0 v) := by
  rw [in_340]
  rcases hv with rfl | rfl
  · simp (disch := omega) only [x_6_3, x_1, x_6_0, x_4_1, x_4_2, x_81_3_d0, x_81_3_d1, x_81_3_d2, x_81_3_d3, x_81_3_d4, x_68, x_2, x_60, x_61, x_43, x_9_4_I, x_9n_4_I, x_9_4_A, x_9n_4_A, x_9_4_U, x_9n_4_U, x_82, cb_ri, cb_rl, cb_rv, cb_th, cb_ite, ps_s, ps_n, u_340_0, u_340_15, u_340_16, u_340_20, u_340_24, u_340_28, c, Int.reduceEq, Int.reduceLT, Int.reduceLE, reduceIte, Int.reduceAdd, Int.reduceSub, Int.reduceMul, Int.reduceNeg, Int.reduceToNat, Bool.false_eq_true, eq_self, if_pos, if_neg]
  · simp (disch := omega) only [x_6_3, x_1, x_6_0, x_4_1, x_4_2, x_81_3_d0, x_81_3_d1, x_81_3_d2, x_81_3_d3, x_81_3_d4, x_68, x_2, x_60, x_61, x_43, x_9_4_I, x_9n_4_I, x_9_4_A, x_9n_4_A, x_9_4_U, x_9n_4_U, x_82, cb_ri, cb_rl, cb_rv, cb_th, cb_ite, ps_s, ps_n, u_340_0, u_340_15, u_340_16, u_340_20, u_340_24, u_340_28, c, Int.reduceEq, Int.reduceLT, Int.reduceLE, reduceIte, Int.reduceAdd, Int.reduceSub, Int.reduceMul, Int.reduceNeg, Int.reduceToNat, Bool.false_eq_true, eq_self, if_pos, if_neg]
theorem wb_strike (lv : Nat) (x1 x2 : Int) (h h1 : Hp) (e : Nat) (c : cl (lv + 1) 97 [aA 11 0, aI x1, aI x2] h = th e h1) (hT : 0 < t21 e) : cl (lv + 2) 340 [aA 11 0, aI x1, aI x2, aA 25 0] h = addc 1 (ri (t21 e : Int) h1) := by
  rw [in_340]
  rcases t21_pos hT with rfl | rfl
  · simp (disch := omega) only [x_6_3, x_1, x_6_0, x_4_1, x_4_2, x_81_3_d0, x_81_3_d1, x_81_3_d2, x_81_3_d3, x_81_3_d4, x_68, x_2, x_60, x_61, x_43, x_9_4_I, x_9n_4_I, x_9_4_A, x_9n_4_A, x_9_4_U, x_9n_4_U, x_82, cb_ri, cb_rl, cb_rv, cb_th, cb_ite, ps_s, ps_n, u_340_0, u_340_15, u_340_16, u_340_28, c, cb_thH, Int.reduceEq, Int.reduceLT, Int.reduceLE, reduceIte, Int.reduceAdd, Int.reduceSub, Int.reduceMul, Int.reduceNeg, Int.reduceToNat, Bool.false_eq_true, eq_self, if_pos, if_neg]
    show addc 1 (run (lv + 1) 340 20 [aA 11 0, aI x1, aI x2, aA 25 0, none] [none] h1) = _
    simp (disch := omega) only [x_6_3, x_1, x_6_0, x_4_1, x_4_2, x_81_3_d0, x_81_3_d1, x_81_3_d2, x_81_3_d3, x_81_3_d4, x_68, x_2, x_60, x_61, x_43, x_9_4_I, x_9n_4_I, x_9_4_A, x_9n_4_A, x_9_4_U, x_9n_4_U, x_82, cb_ri, cb_rl, cb_rv, cb_th, cb_ite, ps_s, ps_n, u_340_0, u_340_15, u_340_16, u_340_20, u_340_24, u_340_28, Int.reduceEq, Int.reduceLT, Int.reduceLE, reduceIte, Int.reduceAdd, Int.reduceSub, Int.reduceMul, Int.reduceNeg, Int.reduceToNat, Bool.false_eq_true, eq_self, if_pos, if_neg]
    rfl
  · simp (disch := omega) only [x_6_3, x_1, x_6_0, x_4_1, x_4_2, x_81_3_d0, x_81_3_d1, x_81_3_d2, x_81_3_d3, x_81_3_d4, x_68, x_2, x_60, x_61, x_43, x_9_4_I, x_9n_4_I, x_9_4_A, x_9n_4_A, x_9_4_U, x_9n_4_U, x_82, cb_ri, cb_rl, cb_rv, cb_th, cb_ite, ps_s, ps_n, u_340_0, u_340_15, u_340_16, u_340_28, c, cb_thH, Int.reduceEq, Int.reduceLT, Int.reduceLE, reduceIte, Int.reduceAdd, Int.reduceSub, Int.reduceMul, Int.reduceNeg, Int.reduceToNat, Bool.false_eq_true, eq_self, if_pos, if_neg]
    show addc 1 (run (lv + 1) 340 24 [aA 11 0, aI x1, aI x2, aA 25 0, none] [none] h1) = _
    simp (disch := omega) only [x_6_3, x_1, x_6_0, x_4_1, x_4_2, x_81_3_d0, x_81_3_d1, x_81_3_d2, x_81_3_d3, x_81_3_d4, x_68, x_2, x_60, x_61, x_43, x_9_4_I, x_9n_4_I, x_9_4_A, x_9n_4_A, x_9_4_U, x_9n_4_U, x_82, cb_ri, cb_rl, cb_rv, cb_th, cb_ite, ps_s, ps_n, u_340_0, u_340_15, u_340_16, u_340_20, u_340_24, u_340_28, Int.reduceEq, Int.reduceLT, Int.reduceLE, reduceIte, Int.reduceAdd, Int.reduceSub, Int.reduceMul, Int.reduceNeg, Int.reduceToNat, Bool.false_eq_true, eq_self, if_pos, if_neg]
    rfl
theorem wa_shift (lv : Nat) (x1 x2 : Int) (h h1 : Hp) (v : Int) (c : cl (lv + 1) 98 [aA 11 0, aI x1, aI x2] h = ri v h1) : cl (lv + 2) 341 [aA 11 0, aI x1, aI x2, aA 25 0] h = ri 0 (hset h1 25 0 0 v) := by
  rw [in_341]
  simp (disch := omega) only [x_6_3, x_1, x_6_0, x_4_1, x_4_2, x_81_3_d0, x_81_3_d1, x_81_3_d2, x_81_3_d3, x_81_3_d4, x_23, x_43, x_60, x_9_4_I, x_9n_4_I, x_9_4_A, x_9n_4_A, x_9_4_U, x_9n_4_U, x_82, cb_ri, cb_rl, cb_rv, cb_th, cb_ite, ps_s, ps_n, u_341_0, u_341_13, u_341_17, u_341_21, u_341_25, c, Int.reduceEq, Int.reduceLT, Int.reduceLE, reduceIte, Int.reduceAdd, Int.reduceSub, Int.reduceMul, Int.reduceNeg, Int.reduceToNat, Bool.false_eq_true, eq_self, if_pos, if_neg]
theorem wb_shift (lv : Nat) (x1 x2 : Int) (h h1 : Hp) (e : Nat) (c : cl (lv + 1) 98 [aA 11 0, aI x1, aI x2] h = th e h1) (hT : 0 < t201 e) : cl (lv + 2) 341 [aA 11 0, aI x1, aI x2, aA 25 0] h = addc 1 (ri (t201 e : Int) h1) := by
  rw [in_341]
  rcases t201_pos hT with rfl | rfl | rfl
  · simp (disch := omega) only [x_6_3, x_1, x_6_0, x_4_1, x_4_2, x_81_3_d0, x_81_3_d1, x_81_3_d2, x_81_3_d3, x_81_3_d4, x_23, x_43, x_60, x_9_4_I, x_9n_4_I, x_9_4_A, x_9n_4_A, x_9_4_U, x_9n_4_U, x_82, cb_ri, cb_rl, cb_rv, cb_th, cb_ite, ps_s, ps_n, u_341_0, u_341_25, c, cb_thH, Int.reduceEq, Int.reduceLT, Int.reduceLE, reduceIte, Int.reduceAdd, Int.reduceSub, Int.reduceMul, Int.reduceNeg, Int.reduceToNat, Bool.false_eq_true, eq_self, if_pos, if_neg]
    show addc 1 (run (lv + 1) 341 13 [aA 11 0, aI x1, aI x2, aA 25 0, none] [none] h1) = _
    simp (disch := omega) only [x_6_3, x_1, x_6_0, x_4_1, x_4_2, x_81_3_d0, x_81_3_d1, x_81_3_d2, x_81_3_d3, x_81_3_d4, x_23, x_43, x_60, x_9_4_I, x_9n_4_I, x_9_4_A, x_9n_4_A, x_9_4_U, x_9n_4_U, x_82, cb_ri, cb_rl, cb_rv, cb_th, cb_ite, ps_s, ps_n, u_341_0, u_341_13, u_341_17, u_341_21, u_341_25, Int.reduceEq, Int.reduceLT, Int.reduceLE, reduceIte, Int.reduceAdd, Int.reduceSub, Int.reduceMul, Int.reduceNeg, Int.reduceToNat, Bool.false_eq_true, eq_self, if_pos, if_neg]
    rfl
  · simp (disch := omega) only [x_6_3, x_1, x_6_0, x_4_1, x_4_2, x_81_3_d0, x_81_3_d1, x_81_3_d2, x_81_3_d3, x_81_3_d4, x_23, x_43, x_60, x_9_4_I, x_9n_4_I, x_9_4_A, x_9n_4_A, x_9_4_U, x_9n_4_U, x_82, cb_ri, cb_rl, cb_rv, cb_th, cb_ite, ps_s, ps_n, u_341_0, u_341_25, c, cb_thH, Int.reduceEq, Int.reduceLT, Int.reduceLE, reduceIte, Int.reduceAdd, Int.reduceSub, Int.reduceMul, Int.reduceNeg, Int.reduceToNat, Bool.false_eq_true, eq_self, if_pos, if_neg]
    show addc 1 (run (lv + 1) 341 17 [aA 11 0, aI x1, aI x2, aA 25 0, none] [none] h1) = _
    simp (disch := omega) only [x_6_3, x_1, x_6_0, x_4_1, x_4_2, x_81_3_d0, x_81_3_d1, x_81_3_d2, x_81_3_d3, x_81_3_d4, x_23, x_43, x_60, x_9_4_I, x_9n_4_I, x_9_4_A, x_9n_4_A, x_9_4_U, x_9n_4_U, x_82, cb_ri, cb_rl, cb_rv, cb_th, cb_ite, ps_s, ps_n, u_341_0, u_341_13, u_341_17, u_341_21, u_341_25, Int.reduceEq, Int.reduceLT, Int.reduceLE, reduceIte, Int.reduceAdd, Int.reduceSub, Int.reduceMul, Int.reduceNeg, Int.reduceToNat, Bool.false_eq_true, eq_self, if_pos, if_neg]
    rfl
  · simp (disch := omega) only [x_6_3, x_1, x_6_0, x_4_1, x_4_2, x_81_3_d0, x_81_3_d1, x_81_3_d2, x_81_3_d3, x_81_3_d4, x_23, x_43, x_60, x_9_4_I, x_9n_4_I, x_9_4_A, x_9n_4_A, x_9_4_U, x_9n_4_U, x_82, cb_ri, cb_rl, cb_rv, cb_th, cb_ite, ps_s, ps_n, u_341_0, u_341_25, c, cb_thH, Int.reduceEq, Int.reduceLT, Int.reduceLE, reduceIte, Int.reduceAdd, Int.reduceSub, Int.reduceMul, Int.reduceNeg, Int.reduceToNat, Bool.false_eq_true, eq_self, if_pos, if_neg]
    show addc 1 (run (lv + 1) 341 21 [aA 11 0, aI x1, aI x2, aA 25 0, none] [none] h1) = _
    simp (disch := omega) only [x_6_3, x_1, x_6_0, x_4_1, x_4_2, x_81_3_d0, x_81_3_d1, x_81_3_d2, x_81_3_d3, x_81_3_d4, x_23, x_43, x_60, x_9_4_I, x_9n_4_I, x_9_4_A, x_9n_4_A, x_9_4_U, x_9n_4_U, x_82, cb_ri, cb_rl, cb_rv, cb_th, cb_ite, ps_s, ps_n, u_341_0, u_341_13, u_341_17, u_341_21, u_341_25, Int.reduceEq, Int.reduceLT, Int.reduceLE, reduceIte, Int.reduceAdd, Int.reduceSub, Int.reduceMul, Int.reduceNeg, Int.reduceToNat, Bool.false_eq_true, eq_self, if_pos, if_neg]
    rfl
theorem wa_slip (lv : Nat) (x1 : Int) (h h1 : Hp) (v : Int) (c : cl (lv + 1) 99 [aA 11 0, aI x1] h = ri v h1) : cl (lv + 2) 342 [aA 11 0, aI x1, aA 25 0] h = ri 0 (hset h1 25 0 0 v) := by
  rw [in_342]
  simp (disch := omega) only [x_6_2, x_1, x_6_0, x_4_1, x_81_2_d0, x_81_2_d1, x_81_2_d2, x_81_2_d3, x_81_2_d4, x_23, x_43, x_60, x_9_3_I, x_9n_3_I, x_9_3_A, x_9n_3_A, x_9_3_U, x_9n_3_U, x_82, cb_ri, cb_rl, cb_rv, cb_th, cb_ite, ps_s, ps_n, u_342_0, u_342_12, u_342_15, c, Int.reduceEq, Int.reduceLT, Int.reduceLE, reduceIte, Int.reduceAdd, Int.reduceSub, Int.reduceMul, Int.reduceNeg, Int.reduceToNat, Bool.false_eq_true, eq_self, if_pos, if_neg]
theorem wb_slip (lv : Nat) (x1 : Int) (h h1 : Hp) (e : Nat) (c : cl (lv + 1) 99 [aA 11 0, aI x1] h = th e h1) (hT : 0 < t0 e) : cl (lv + 2) 342 [aA 11 0, aI x1, aA 25 0] h = addc 1 (ri (t0 e : Int) h1) := by
  rw [in_342]
  cases t0_pos hT
  · simp (disch := omega) only [x_6_2, x_1, x_6_0, x_4_1, x_81_2_d0, x_81_2_d1, x_81_2_d2, x_81_2_d3, x_81_2_d4, x_23, x_43, x_60, x_9_3_I, x_9n_3_I, x_9_3_A, x_9n_3_A, x_9_3_U, x_9n_3_U, x_82, cb_ri, cb_rl, cb_rv, cb_th, cb_ite, ps_s, ps_n, u_342_0, u_342_15, c, cb_thH, Int.reduceEq, Int.reduceLT, Int.reduceLE, reduceIte, Int.reduceAdd, Int.reduceSub, Int.reduceMul, Int.reduceNeg, Int.reduceToNat, Bool.false_eq_true, eq_self, if_pos, if_neg]
    show addc 1 (run (lv + 1) 342 12 [aA 11 0, aI x1, aA 25 0, none] [none] h1) = _
    simp (disch := omega) only [x_6_2, x_1, x_6_0, x_4_1, x_81_2_d0, x_81_2_d1, x_81_2_d2, x_81_2_d3, x_81_2_d4, x_23, x_43, x_60, x_9_3_I, x_9n_3_I, x_9_3_A, x_9n_3_A, x_9_3_U, x_9n_3_U, x_82, cb_ri, cb_rl, cb_rv, cb_th, cb_ite, ps_s, ps_n, u_342_0, u_342_12, u_342_15, Int.reduceEq, Int.reduceLT, Int.reduceLE, reduceIte, Int.reduceAdd, Int.reduceSub, Int.reduceMul, Int.reduceNeg, Int.reduceToNat, Bool.false_eq_true, eq_self, if_pos, if_neg]
    rfl
theorem wa_swap (lv : Nat) (x1 x2 : Int) (h h1 : Hp) (c : cl (lv + 1) 100 [aA 11 0, aI x1, aI x2] h = rv h1) : cl (lv + 2) 343 [aA 11 0, aI x1, aI x2] h = ri 0 h1 := by
  rw [in_343]
  simp (disch := omega) only [x_6_0, x_4_1, x_4_2, x_81_3_d0, x_81_3_d1, x_81_3_d2, x_81_3_d3, x_81_3_d4, x_60, x_9_3_I, x_9n_3_I, x_9_3_A, x_9n_3_A, x_9_3_U, x_9n_3_U, x_1, x_82, cb_ri, cb_rl, cb_rv, cb_th, cb_ite, ps_s, ps_n, u_343_0, u_343_9, u_343_12, u_343_15, c, Int.reduceEq, Int.reduceLT, Int.reduceLE, reduceIte, Int.reduceAdd, Int.reduceSub, Int.reduceMul, Int.reduceNeg, Int.reduceToNat, Bool.false_eq_true, eq_self, if_pos, if_neg]
theorem wb_swap (lv : Nat) (x1 x2 : Int) (h h1 : Hp) (e : Nat) (c : cl (lv + 1) 100 [aA 11 0, aI x1, aI x2] h = th e h1) (hT : 0 < t20 e) : cl (lv + 2) 343 [aA 11 0, aI x1, aI x2] h = addc 1 (ri (t20 e : Int) h1) := by
  rw [in_343]
  rcases t20_pos hT with rfl | rfl
  · simp (disch := omega) only [x_6_0, x_4_1, x_4_2, x_81_3_d0, x_81_3_d1, x_81_3_d2, x_81_3_d3, x_81_3_d4, x_60, x_9_3_I, x_9n_3_I, x_9_3_A, x_9n_3_A, x_9_3_U, x_9n_3_U, x_1, x_82, cb_ri, cb_rl, cb_rv, cb_th, cb_ite, ps_s, ps_n, u_343_0, u_343_15, c, cb_thH, Int.reduceEq, Int.reduceLT, Int.reduceLE, reduceIte, Int.reduceAdd, Int.reduceSub, Int.reduceMul, Int.reduceNeg, Int.reduceToNat, Bool.false_eq_true, eq_self, if_pos, if_neg]
    show addc 1 (run (lv + 1) 343 9 [aA 11 0, aI x1, aI x2, none] [none] h1) = _
    simp (disch := omega) only [x_6_0, x_4_1, x_4_2, x_81_3_d0, x_81_3_d1, x_81_3_d2, x_81_3_d3, x_81_3_d4, x_60, x_9_3_I, x_9n_3_I, x_9_3_A, x_9n_3_A, x_9_3_U, x_9n_3_U, x_1, x_82, cb_ri, cb_rl, cb_rv, cb_th, cb_ite, ps_s, ps_n, u_343_0, u_343_9, u_343_12, u_343_15, Int.reduceEq, Int.reduceLT, Int.reduceLE, reduceIte, Int.reduceAdd, Int.reduceSub, Int.reduceMul, Int.reduceNeg, Int.reduceToNat, Bool.false_eq_true, eq_self, if_pos, if_neg]
    rfl
  · simp (disch := omega) only [x_6_0, x_4_1, x_4_2, x_81_3_d0, x_81_3_d1, x_81_3_d2, x_81_3_d3, x_81_3_d4, x_60, x_9_3_I, x_9n_3_I, x_9_3_A, x_9n_3_A, x_9_3_U, x_9n_3_U, x_1, x_82, cb_ri, cb_rl, cb_rv, cb_th, cb_ite, ps_s, ps_n, u_343_0, u_343_15, c, cb_thH, Int.reduceEq, Int.reduceLT, Int.reduceLE, reduceIte, Int.reduceAdd, Int.reduceSub, Int.reduceMul, Int.reduceNeg, Int.reduceToNat, Bool.false_eq_true, eq_self, if_pos, if_neg]
    show addc 1 (run (lv + 1) 343 12 [aA 11 0, aI x1, aI x2, none] [none] h1) = _
    simp (disch := omega) only [x_6_0, x_4_1, x_4_2, x_81_3_d0, x_81_3_d1, x_81_3_d2, x_81_3_d3, x_81_3_d4, x_60, x_9_3_I, x_9n_3_I, x_9_3_A, x_9n_3_A, x_9_3_U, x_9n_3_U, x_1, x_82, cb_ri, cb_rl, cb_rv, cb_th, cb_ite, ps_s, ps_n, u_343_0, u_343_9, u_343_12, u_343_15, Int.reduceEq, Int.reduceLT, Int.reduceLE, reduceIte, Int.reduceAdd, Int.reduceSub, Int.reduceMul, Int.reduceNeg, Int.reduceToNat, Bool.false_eq_true, eq_self, if_pos, if_neg]
    rfl
theorem wa_of (lv : Nat) (x1 : Int) (h h1 : Hp) (v : Int) (c : cl (lv + 1) 101 [aA 11 0, aI x1] h = ri v h1) : cl (lv + 2) 344 [aA 11 0, aI x1, aA 25 0] h = ri 0 (hset h1 25 0 0 v) := by
  rw [in_344]
  simp (disch := omega) only [x_6_2, x_1, x_6_0, x_4_1, x_81_2_d0, x_81_2_d1, x_81_2_d2, x_81_2_d3, x_81_2_d4, x_23, x_43, x_60, x_9_3_I, x_9n_3_I, x_9_3_A, x_9n_3_A, x_9_3_U, x_9n_3_U, x_82, cb_ri, cb_rl, cb_rv, cb_th, cb_ite, ps_s, ps_n, u_344_0, u_344_12, u_344_15, c, Int.reduceEq, Int.reduceLT, Int.reduceLE, reduceIte, Int.reduceAdd, Int.reduceSub, Int.reduceMul, Int.reduceNeg, Int.reduceToNat, Bool.false_eq_true, eq_self, if_pos, if_neg]
theorem wb_of (lv : Nat) (x1 : Int) (h h1 : Hp) (e : Nat) (c : cl (lv + 1) 101 [aA 11 0, aI x1] h = th e h1) (hT : 0 < t2 e) : cl (lv + 2) 344 [aA 11 0, aI x1, aA 25 0] h = addc 1 (ri (t2 e : Int) h1) := by
  rw [in_344]
  cases t2_pos hT
  · simp (disch := omega) only [x_6_2, x_1, x_6_0, x_4_1, x_81_2_d0, x_81_2_d1, x_81_2_d2, x_81_2_d3, x_81_2_d4, x_23, x_43, x_60, x_9_3_I, x_9n_3_I, x_9_3_A, x_9n_3_A, x_9_3_U, x_9n_3_U, x_82, cb_ri, cb_rl, cb_rv, cb_th, cb_ite, ps_s, ps_n, u_344_0, u_344_15, c, cb_thH, Int.reduceEq, Int.reduceLT, Int.reduceLE, reduceIte, Int.reduceAdd, Int.reduceSub, Int.reduceMul, Int.reduceNeg, Int.reduceToNat, Bool.false_eq_true, eq_self, if_pos, if_neg]
    show addc 1 (run (lv + 1) 344 12 [aA 11 0, aI x1, aA 25 0, none] [none] h1) = _
    simp (disch := omega) only [x_6_2, x_1, x_6_0, x_4_1, x_81_2_d0, x_81_2_d1, x_81_2_d2, x_81_2_d3, x_81_2_d4, x_23, x_43, x_60, x_9_3_I, x_9n_3_I, x_9_3_A, x_9n_3_A, x_9_3_U, x_9n_3_U, x_82, cb_ri, cb_rl, cb_rv, cb_th, cb_ite, ps_s, ps_n, u_344_0, u_344_12, u_344_15, Int.reduceEq, Int.reduceLT, Int.reduceLE, reduceIte, Int.reduceAdd, Int.reduceSub, Int.reduceMul, Int.reduceNeg, Int.reduceToNat, Bool.false_eq_true, eq_self, if_pos, if_neg]
    rfl
theorem wa_holds (lv : Nat) (x1 x2 : Int) (h h1 : Hp) (v : Int) (c : cl (lv + 1) 102 [aA 11 0, aI x1, aI x2] h = ri v h1) : cl (lv + 2) 345 [aA 11 0, aI x1, aI x2, aA 25 0] h = ri 0 (hset h1 25 0 0 v) := by
  rw [in_345]
  simp (disch := omega) only [x_6_3, x_1, x_6_0, x_4_1, x_4_2, x_81_3_d0, x_81_3_d1, x_81_3_d2, x_81_3_d3, x_81_3_d4, x_23, x_43, x_60, x_9_4_I, x_9n_4_I, x_9_4_A, x_9n_4_A, x_9_4_U, x_9n_4_U, x_82, cb_ri, cb_rl, cb_rv, cb_th, cb_ite, ps_s, ps_n, u_345_0, u_345_13, u_345_17, c, Int.reduceEq, Int.reduceLT, Int.reduceLE, reduceIte, Int.reduceAdd, Int.reduceSub, Int.reduceMul, Int.reduceNeg, Int.reduceToNat, Bool.false_eq_true, eq_self, if_pos, if_neg]
theorem wb_holds (lv : Nat) (x1 x2 : Int) (h h1 : Hp) (e : Nat) (c : cl (lv + 1) 102 [aA 11 0, aI x1, aI x2] h = th e h1) (hT : 0 < t2 e) : cl (lv + 2) 345 [aA 11 0, aI x1, aI x2, aA 25 0] h = addc 1 (ri (t2 e : Int) h1) := by
  rw [in_345]
  cases t2_pos hT
  · simp (disch := omega) only [x_6_3, x_1, x_6_0, x_4_1, x_4_2, x_81_3_d0, x_81_3_d1, x_81_3_d2, x_81_3_d3, x_81_3_d4, x_23, x_43, x_60, x_9_4_I, x_9n_4_I, x_9_4_A, x_9n_4_A, x_9_4_U, x_9n_4_U, x_82, cb_ri, cb_rl, cb_rv, cb_th, cb_ite, ps_s, ps_n, u_345_0, u_345_17, c, cb_thH, Int.reduceEq, Int.reduceLT, Int.reduceLE, reduceIte, Int.reduceAdd, Int.reduceSub, Int.reduceMul, Int.reduceNeg, Int.reduceToNat, Bool.false_eq_true, eq_self, if_pos, if_neg]
    show addc 1 (run (lv + 1) 345 13 [aA 11 0, aI x1, aI x2, aA 25 0, none] [none] h1) = _
    simp (disch := omega) only [x_6_3, x_1, x_6_0, x_4_1, x_4_2, x_81_3_d0, x_81_3_d1, x_81_3_d2, x_81_3_d3, x_81_3_d4, x_23, x_43, x_60, x_9_4_I, x_9n_4_I, x_9_4_A, x_9n_4_A, x_9_4_U, x_9n_4_U, x_82, cb_ri, cb_rl, cb_rv, cb_th, cb_ite, ps_s, ps_n, u_345_0, u_345_13, u_345_17, Int.reduceEq, Int.reduceLT, Int.reduceLE, reduceIte, Int.reduceAdd, Int.reduceSub, Int.reduceMul, Int.reduceNeg, Int.reduceToNat, Bool.false_eq_true, eq_self, if_pos, if_neg]
    rfl
theorem wa_left (lv : Nat) (x1 : Int) (h h1 : Hp) (v : Int) (c : cl (lv + 1) 103 [aA 11 0, aI x1] h = ri v h1) : cl (lv + 2) 346 [aA 11 0, aI x1, aA 25 0] h = ri 0 (hset h1 25 0 0 v) := by
  rw [in_346]
  simp (disch := omega) only [x_6_2, x_1, x_6_0, x_4_1, x_81_2_d0, x_81_2_d1, x_81_2_d2, x_81_2_d3, x_81_2_d4, x_23, x_43, x_60, x_9_3_I, x_9n_3_I, x_9_3_A, x_9n_3_A, x_9_3_U, x_9n_3_U, x_82, cb_ri, cb_rl, cb_rv, cb_th, cb_ite, ps_s, ps_n, u_346_0, u_346_12, u_346_15, c, Int.reduceEq, Int.reduceLT, Int.reduceLE, reduceIte, Int.reduceAdd, Int.reduceSub, Int.reduceMul, Int.reduceNeg, Int.reduceToNat, Bool.false_eq_true, eq_self, if_pos, if_neg]
theorem wb_left (lv : Nat) (x1 : Int) (h h1 : Hp) (e : Nat) (c : cl (lv + 1) 103 [aA 11 0, aI x1] h = th e h1) (hT : 0 < t2 e) : cl (lv + 2) 346 [aA 11 0, aI x1, aA 25 0] h = addc 1 (ri (t2 e : Int) h1) := by
  rw [in_346]
  cases t2_pos hT
  · simp (disch := omega) only [x_6_2, x_1, x_6_0, x_4_1, x_81_2_d0, x_81_2_d1, x_81_2_d2, x_81_2_d3, x_81_2_d4, x_23, x_43, x_60, x_9_3_I, x_9n_3_I, x_9_3_A, x_9n_3_A, x_9_3_U, x_9n_3_U, x_82, cb_ri, cb_rl, cb_rv, cb_th, cb_ite, ps_s, ps_n, u_346_0, u_346_15, c, cb_thH, Int.reduceEq, Int.reduceLT, Int.reduceLE, reduceIte, Int.reduceAdd, Int.reduceSub, Int.reduceMul, Int.reduceNeg, Int.reduceToNat, Bool.false_eq_true, eq_self, if_pos, if_neg]
    show addc 1 (run (lv + 1) 346 12 [aA 11 0, aI x1, aA 25 0, none] [none] h1) = _
    simp (disch := omega) only [x_6_2, x_1, x_6_0, x_4_1, x_81_2_d0, x_81_2_d1, x_81_2_d2, x_81_2_d3, x_81_2_d4, x_23, x_43, x_60, x_9_3_I, x_9n_3_I, x_9_3_A, x_9n_3_A, x_9_3_U, x_9n_3_U, x_82, cb_ri, cb_rl, cb_rv, cb_th, cb_ite, ps_s, ps_n, u_346_0, u_346_12, u_346_15, Int.reduceEq, Int.reduceLT, Int.reduceLE, reduceIte, Int.reduceAdd, Int.reduceSub, Int.reduceMul, Int.reduceNeg, Int.reduceToNat, Bool.false_eq_true, eq_self, if_pos, if_neg]
    rfl
theorem wa_go (lv : Nat) (x1 : Int) (h h1 : Hp) (v : Int) (c : cl (lv + 1) 104 [aA 11 0, aI x1] h = ri v h1) : cl (lv + 2) 347 [aA 11 0, aI x1, aA 25 0] h = ri 0 (hset h1 25 0 0 v) := by
  rw [in_347]
  simp (disch := omega) only [x_6_2, x_1, x_6_0, x_4_1, x_81_2_d0, x_81_2_d1, x_81_2_d2, x_81_2_d3, x_81_2_d4, x_23, x_43, x_60, x_9_3_I, x_9n_3_I, x_9_3_A, x_9n_3_A, x_9_3_U, x_9n_3_U, x_82, cb_ri, cb_rl, cb_rv, cb_th, cb_ite, ps_s, ps_n, u_347_0, u_347_12, u_347_15, c, Int.reduceEq, Int.reduceLT, Int.reduceLE, reduceIte, Int.reduceAdd, Int.reduceSub, Int.reduceMul, Int.reduceNeg, Int.reduceToNat, Bool.false_eq_true, eq_self, if_pos, if_neg]
theorem wb_go (lv : Nat) (x1 : Int) (h h1 : Hp) (e : Nat) (c : cl (lv + 1) 104 [aA 11 0, aI x1] h = th e h1) (hT : 0 < t2 e) : cl (lv + 2) 347 [aA 11 0, aI x1, aA 25 0] h = addc 1 (ri (t2 e : Int) h1) := by
  rw [in_347]
  cases t2_pos hT
  · simp (disch := omega) only [x_6_2, x_1, x_6_0, x_4_1, x_81_2_d0, x_81_2_d1, x_81_2_d2, x_81_2_d3, x_81_2_d4, x_23, x_43, x_60, x_9_3_I, x_9n_3_I, x_9_3_A, x_9n_3_A, x_9_3_U, x_9n_3_U, x_82, cb_ri, cb_rl, cb_rv, cb_th, cb_ite, ps_s, ps_n, u_347_0, u_347_15, c, cb_thH, Int.reduceEq, Int.reduceLT, Int.reduceLE, reduceIte, Int.reduceAdd, Int.reduceSub, Int.reduceMul, Int.reduceNeg, Int.reduceToNat, Bool.false_eq_true, eq_self, if_pos, if_neg]
    show addc 1 (run (lv + 1) 347 12 [aA 11 0, aI x1, aA 25 0, none] [none] h1) = _
    simp (disch := omega) only [x_6_2, x_1, x_6_0, x_4_1, x_81_2_d0, x_81_2_d1, x_81_2_d2, x_81_2_d3, x_81_2_d4, x_23, x_43, x_60, x_9_3_I, x_9n_3_I, x_9_3_A, x_9n_3_A, x_9_3_U, x_9n_3_U, x_82, cb_ri, cb_rl, cb_rv, cb_th, cb_ite, ps_s, ps_n, u_347_0, u_347_12, u_347_15, Int.reduceEq, Int.reduceLT, Int.reduceLE, reduceIte, Int.reduceAdd, Int.reduceSub, Int.reduceMul, Int.reduceNeg, Int.reduceToNat, Bool.false_eq_true, eq_self, if_pos, if_neg]
    rfl
theorem wa_third (lv : Nat) (x1 : Int) (h h1 : Hp) (v : Int) (c : cl (lv + 1) 105 [aA 11 0, aI x1] h = ri v h1) : cl (lv + 2) 348 [aA 11 0, aI x1, aA 25 0] h = ri 0 (hset h1 25 0 0 v) := by
  rw [in_348]
  simp (disch := omega) only [x_6_2, x_1, x_6_0, x_4_1, x_81_2_d0, x_81_2_d1, x_81_2_d2, x_81_2_d3, x_81_2_d4, x_23, x_43, x_60, x_9_3_I, x_9n_3_I, x_9_3_A, x_9n_3_A, x_9_3_U, x_9n_3_U, x_82, cb_ri, cb_rl, cb_rv, cb_th, cb_ite, ps_s, ps_n, u_348_0, u_348_12, u_348_15, c, Int.reduceEq, Int.reduceLT, Int.reduceLE, reduceIte, Int.reduceAdd, Int.reduceSub, Int.reduceMul, Int.reduceNeg, Int.reduceToNat, Bool.false_eq_true, eq_self, if_pos, if_neg]
theorem wb_third (lv : Nat) (x1 : Int) (h h1 : Hp) (e : Nat) (c : cl (lv + 1) 105 [aA 11 0, aI x1] h = th e h1) (hT : 0 < t2 e) : cl (lv + 2) 348 [aA 11 0, aI x1, aA 25 0] h = addc 1 (ri (t2 e : Int) h1) := by
  rw [in_348]
  cases t2_pos hT
  · simp (disch := omega) only [x_6_2, x_1, x_6_0, x_4_1, x_81_2_d0, x_81_2_d1, x_81_2_d2, x_81_2_d3, x_81_2_d4, x_23, x_43, x_60, x_9_3_I, x_9n_3_I, x_9_3_A, x_9n_3_A, x_9_3_U, x_9n_3_U, x_82, cb_ri, cb_rl, cb_rv, cb_th, cb_ite, ps_s, ps_n, u_348_0, u_348_15, c, cb_thH, Int.reduceEq, Int.reduceLT, Int.reduceLE, reduceIte, Int.reduceAdd, Int.reduceSub, Int.reduceMul, Int.reduceNeg, Int.reduceToNat, Bool.false_eq_true, eq_self, if_pos, if_neg]
    show addc 1 (run (lv + 1) 348 12 [aA 11 0, aI x1, aA 25 0, none] [none] h1) = _
    simp (disch := omega) only [x_6_2, x_1, x_6_0, x_4_1, x_81_2_d0, x_81_2_d1, x_81_2_d2, x_81_2_d3, x_81_2_d4, x_23, x_43, x_60, x_9_3_I, x_9n_3_I, x_9_3_A, x_9n_3_A, x_9_3_U, x_9n_3_U, x_82, cb_ri, cb_rl, cb_rv, cb_th, cb_ite, ps_s, ps_n, u_348_0, u_348_12, u_348_15, Int.reduceEq, Int.reduceLT, Int.reduceLE, reduceIte, Int.reduceAdd, Int.reduceSub, Int.reduceMul, Int.reduceNeg, Int.reduceToNat, Bool.false_eq_true, eq_self, if_pos, if_neg]
    rfl
theorem wa_hands (lv : Nat) (x1 x2 : Int) (h h1 : Hp) (v : Int) (c : cl (lv + 1) 109 [aA 11 0, aI x1, aI x2] h = ri v h1) : cl (lv + 2) 349 [aA 11 0, aI x1, aI x2, aA 25 0] h = ri 0 (hset h1 25 0 0 v) := by
  rw [in_349]
  simp (disch := omega) only [x_6_3, x_1, x_6_0, x_4_1, x_4_2, x_81_3_d0, x_81_3_d1, x_81_3_d2, x_81_3_d3, x_81_3_d4, x_23, x_43, x_60, x_9_4_I, x_9n_4_I, x_9_4_A, x_9n_4_A, x_9_4_U, x_9n_4_U, x_82, cb_ri, cb_rl, cb_rv, cb_th, cb_ite, ps_s, ps_n, u_349_0, u_349_13, u_349_17, u_349_21, c, Int.reduceEq, Int.reduceLT, Int.reduceLE, reduceIte, Int.reduceAdd, Int.reduceSub, Int.reduceMul, Int.reduceNeg, Int.reduceToNat, Bool.false_eq_true, eq_self, if_pos, if_neg]
theorem wb_hands (lv : Nat) (x1 x2 : Int) (h h1 : Hp) (e : Nat) (c : cl (lv + 1) 109 [aA 11 0, aI x1, aI x2] h = th e h1) (hT : 0 < t20 e) : cl (lv + 2) 349 [aA 11 0, aI x1, aI x2, aA 25 0] h = addc 1 (ri (t20 e : Int) h1) := by
  rw [in_349]
  rcases t20_pos hT with rfl | rfl
  · simp (disch := omega) only [x_6_3, x_1, x_6_0, x_4_1, x_4_2, x_81_3_d0, x_81_3_d1, x_81_3_d2, x_81_3_d3, x_81_3_d4, x_23, x_43, x_60, x_9_4_I, x_9n_4_I, x_9_4_A, x_9n_4_A, x_9_4_U, x_9n_4_U, x_82, cb_ri, cb_rl, cb_rv, cb_th, cb_ite, ps_s, ps_n, u_349_0, u_349_21, c, cb_thH, Int.reduceEq, Int.reduceLT, Int.reduceLE, reduceIte, Int.reduceAdd, Int.reduceSub, Int.reduceMul, Int.reduceNeg, Int.reduceToNat, Bool.false_eq_true, eq_self, if_pos, if_neg]
    show addc 1 (run (lv + 1) 349 13 [aA 11 0, aI x1, aI x2, aA 25 0, none] [none] h1) = _
    simp (disch := omega) only [x_6_3, x_1, x_6_0, x_4_1, x_4_2, x_81_3_d0, x_81_3_d1, x_81_3_d2, x_81_3_d3, x_81_3_d4, x_23, x_43, x_60, x_9_4_I, x_9n_4_I, x_9_4_A, x_9n_4_A, x_9_4_U, x_9n_4_U, x_82, cb_ri, cb_rl, cb_rv, cb_th, cb_ite, ps_s, ps_n, u_349_0, u_349_13, u_349_17, u_349_21, Int.reduceEq, Int.reduceLT, Int.reduceLE, reduceIte, Int.reduceAdd, Int.reduceSub, Int.reduceMul, Int.reduceNeg, Int.reduceToNat, Bool.false_eq_true, eq_self, if_pos, if_neg]
    rfl
  · simp (disch := omega) only [x_6_3, x_1, x_6_0, x_4_1, x_4_2, x_81_3_d0, x_81_3_d1, x_81_3_d2, x_81_3_d3, x_81_3_d4, x_23, x_43, x_60, x_9_4_I, x_9n_4_I, x_9_4_A, x_9n_4_A, x_9_4_U, x_9n_4_U, x_82, cb_ri, cb_rl, cb_rv, cb_th, cb_ite, ps_s, ps_n, u_349_0, u_349_21, c, cb_thH, Int.reduceEq, Int.reduceLT, Int.reduceLE, reduceIte, Int.reduceAdd, Int.reduceSub, Int.reduceMul, Int.reduceNeg, Int.reduceToNat, Bool.false_eq_true, eq_self, if_pos, if_neg]
    show addc 1 (run (lv + 1) 349 17 [aA 11 0, aI x1, aI x2, aA 25 0, none] [none] h1) = _
    simp (disch := omega) only [x_6_3, x_1, x_6_0, x_4_1, x_4_2, x_81_3_d0, x_81_3_d1, x_81_3_d2, x_81_3_d3, x_81_3_d4, x_23, x_43, x_60, x_9_4_I, x_9n_4_I, x_9_4_A, x_9n_4_A, x_9_4_U, x_9n_4_U, x_82, cb_ri, cb_rl, cb_rv, cb_th, cb_ite, ps_s, ps_n, u_349_0, u_349_13, u_349_17, u_349_21, Int.reduceEq, Int.reduceLT, Int.reduceLE, reduceIte, Int.reduceAdd, Int.reduceSub, Int.reduceMul, Int.reduceNeg, Int.reduceToNat, Bool.false_eq_true, eq_self, if_pos, if_neg]
    rfl
theorem wa_better (lv : Nat) (x1 : Int) (h h1 : Hp) (v : Int) (c : cl (lv + 1) 115 [aA 11 0, aI x1] h = ri v h1) : cl (lv + 2) 350 [aA 11 0, aI x1, aA 25 0] h = ri 0 (hset h1 25 0 0 v) := by
  rw [in_350]
  simp (disch := omega) only [x_6_2, x_1, x_6_0, x_4_1, x_81_2_d0, x_81_2_d1, x_81_2_d2, x_81_2_d3, x_81_2_d4, x_23, x_43, x_60, x_9_3_I, x_9n_3_I, x_9_3_A, x_9n_3_A, x_9_3_U, x_9n_3_U, x_82, cb_ri, cb_rl, cb_rv, cb_th, cb_ite, ps_s, ps_n, u_350_0, u_350_12, u_350_15, u_350_18, c, Int.reduceEq, Int.reduceLT, Int.reduceLE, reduceIte, Int.reduceAdd, Int.reduceSub, Int.reduceMul, Int.reduceNeg, Int.reduceToNat, Bool.false_eq_true, eq_self, if_pos, if_neg]
theorem wb_better (lv : Nat) (x1 : Int) (h h1 : Hp) (e : Nat) (c : cl (lv + 1) 115 [aA 11 0, aI x1] h = th e h1) (hT : 0 < t21 e) : cl (lv + 2) 350 [aA 11 0, aI x1, aA 25 0] h = addc 1 (ri (t21 e : Int) h1) := by
  rw [in_350]
  rcases t21_pos hT with rfl | rfl
  · simp (disch := omega) only [x_6_2, x_1, x_6_0, x_4_1, x_81_2_d0, x_81_2_d1, x_81_2_d2, x_81_2_d3, x_81_2_d4, x_23, x_43, x_60, x_9_3_I, x_9n_3_I, x_9_3_A, x_9n_3_A, x_9_3_U, x_9n_3_U, x_82, cb_ri, cb_rl, cb_rv, cb_th, cb_ite, ps_s, ps_n, u_350_0, u_350_18, c, cb_thH, Int.reduceEq, Int.reduceLT, Int.reduceLE, reduceIte, Int.reduceAdd, Int.reduceSub, Int.reduceMul, Int.reduceNeg, Int.reduceToNat, Bool.false_eq_true, eq_self, if_pos, if_neg]
    show addc 1 (run (lv + 1) 350 12 [aA 11 0, aI x1, aA 25 0, none] [none] h1) = _
    simp (disch := omega) only [x_6_2, x_1, x_6_0, x_4_1, x_81_2_d0, x_81_2_d1, x_81_2_d2, x_81_2_d3, x_81_2_d4, x_23, x_43, x_60, x_9_3_I, x_9n_3_I, x_9_3_A, x_9n_3_A, x_9_3_U, x_9n_3_U, x_82, cb_ri, cb_rl, cb_rv, cb_th, cb_ite, ps_s, ps_n, u_350_0, u_350_12, u_350_15, u_350_18, Int.reduceEq, Int.reduceLT, Int.reduceLE, reduceIte, Int.reduceAdd, Int.reduceSub, Int.reduceMul, Int.reduceNeg, Int.reduceToNat, Bool.false_eq_true, eq_self, if_pos, if_neg]
    rfl
  · simp (disch := omega) only [x_6_2, x_1, x_6_0, x_4_1, x_81_2_d0, x_81_2_d1, x_81_2_d2, x_81_2_d3, x_81_2_d4, x_23, x_43, x_60, x_9_3_I, x_9n_3_I, x_9_3_A, x_9n_3_A, x_9_3_U, x_9n_3_U, x_82, cb_ri, cb_rl, cb_rv, cb_th, cb_ite, ps_s, ps_n, u_350_0, u_350_18, c, cb_thH, Int.reduceEq, Int.reduceLT, Int.reduceLE, reduceIte, Int.reduceAdd, Int.reduceSub, Int.reduceMul, Int.reduceNeg, Int.reduceToNat, Bool.false_eq_true, eq_self, if_pos, if_neg]
    show addc 1 (run (lv + 1) 350 15 [aA 11 0, aI x1, aA 25 0, none] [none] h1) = _
    simp (disch := omega) only [x_6_2, x_1, x_6_0, x_4_1, x_81_2_d0, x_81_2_d1, x_81_2_d2, x_81_2_d3, x_81_2_d4, x_23, x_43, x_60, x_9_3_I, x_9n_3_I, x_9_3_A, x_9n_3_A, x_9_3_U, x_9n_3_U, x_82, cb_ri, cb_rl, cb_rv, cb_th, cb_ite, ps_s, ps_n, u_350_0, u_350_12, u_350_15, u_350_18, Int.reduceEq, Int.reduceLT, Int.reduceLE, reduceIte, Int.reduceAdd, Int.reduceSub, Int.reduceMul, Int.reduceNeg, Int.reduceToNat, Bool.false_eq_true, eq_self, if_pos, if_neg]
    rfl
theorem wa_tune (lv : Nat) (x1 x2 : Int) (h h1 : Hp) (v : Int) (c : cl (lv + 1) 116 [aA 11 0, aI x1, aI x2] h = ri v h1) : cl (lv + 2) 351 [aA 11 0, aI x1, aI x2, aA 25 0] h = ri 0 (hset h1 25 0 0 v) := by
  rw [in_351]
  simp (disch := omega) only [x_6_3, x_1, x_6_0, x_4_1, x_4_2, x_81_3_d0, x_81_3_d1, x_81_3_d2, x_81_3_d3, x_81_3_d4, x_23, x_43, x_60, x_9_4_I, x_9n_4_I, x_9_4_A, x_9n_4_A, x_9_4_U, x_9n_4_U, x_82, cb_ri, cb_rl, cb_rv, cb_th, cb_ite, ps_s, ps_n, u_351_0, u_351_13, u_351_17, c, Int.reduceEq, Int.reduceLT, Int.reduceLE, reduceIte, Int.reduceAdd, Int.reduceSub, Int.reduceMul, Int.reduceNeg, Int.reduceToNat, Bool.false_eq_true, eq_self, if_pos, if_neg]
theorem wb_tune (lv : Nat) (x1 x2 : Int) (h h1 : Hp) (e : Nat) (c : cl (lv + 1) 116 [aA 11 0, aI x1, aI x2] h = th e h1) (hT : 0 < t2 e) : cl (lv + 2) 351 [aA 11 0, aI x1, aI x2, aA 25 0] h = addc 1 (ri (t2 e : Int) h1) := by
  rw [in_351]
  cases t2_pos hT
  · simp (disch := omega) only [x_6_3, x_1, x_6_0, x_4_1, x_4_2, x_81_3_d0, x_81_3_d1, x_81_3_d2, x_81_3_d3, x_81_3_d4, x_23, x_43, x_60, x_9_4_I, x_9n_4_I, x_9_4_A, x_9n_4_A, x_9_4_U, x_9n_4_U, x_82, cb_ri, cb_rl, cb_rv, cb_th, cb_ite, ps_s, ps_n, u_351_0, u_351_17, c, cb_thH, Int.reduceEq, Int.reduceLT, Int.reduceLE, reduceIte, Int.reduceAdd, Int.reduceSub, Int.reduceMul, Int.reduceNeg, Int.reduceToNat, Bool.false_eq_true, eq_self, if_pos, if_neg]
    show addc 1 (run (lv + 1) 351 13 [aA 11 0, aI x1, aI x2, aA 25 0, none] [none] h1) = _
    simp (disch := omega) only [x_6_3, x_1, x_6_0, x_4_1, x_4_2, x_81_3_d0, x_81_3_d1, x_81_3_d2, x_81_3_d3, x_81_3_d4, x_23, x_43, x_60, x_9_4_I, x_9n_4_I, x_9_4_A, x_9n_4_A, x_9_4_U, x_9n_4_U, x_82, cb_ri, cb_rl, cb_rv, cb_th, cb_ite, ps_s, ps_n, u_351_0, u_351_13, u_351_17, Int.reduceEq, Int.reduceLT, Int.reduceLE, reduceIte, Int.reduceAdd, Int.reduceSub, Int.reduceMul, Int.reduceNeg, Int.reduceToNat, Bool.false_eq_true, eq_self, if_pos, if_neg]
    rfl
theorem wa_next (lv : Nat) (h h1 : Hp) (v : Int) (c : cl (lv + 1) 118 [aA 11 0] h = ri v h1) : cl (lv + 2) 352 [aA 11 0, aA 25 0] h = ri 0 (hset h1 25 0 0 v) := by
  rw [in_352]
  simp (disch := omega) only [x_6_1, x_1, x_6_0, x_81_1_d0, x_81_1_d1, x_81_1_d2, x_81_1_d3, x_81_1_d4, x_23, x_43, x_60, x_9_2_I, x_9n_2_I, x_9_2_A, x_9n_2_A, x_9_2_U, x_9n_2_U, x_82, cb_ri, cb_rl, cb_rv, cb_th, cb_ite, ps_s, ps_n, u_352_0, u_352_11, u_352_14, c, Int.reduceEq, Int.reduceLT, Int.reduceLE, reduceIte, Int.reduceAdd, Int.reduceSub, Int.reduceMul, Int.reduceNeg, Int.reduceToNat, Bool.false_eq_true, eq_self, if_pos, if_neg]
theorem wb_next (lv : Nat) (h h1 : Hp) (e : Nat) (c : cl (lv + 1) 118 [aA 11 0] h = th e h1) (hT : 0 < t0 e) : cl (lv + 2) 352 [aA 11 0, aA 25 0] h = addc 1 (ri (t0 e : Int) h1) := by
  rw [in_352]
  cases t0_pos hT
  · simp (disch := omega) only [x_6_1, x_1, x_6_0, x_81_1_d0, x_81_1_d1, x_81_1_d2, x_81_1_d3, x_81_1_d4, x_23, x_43, x_60, x_9_2_I, x_9n_2_I, x_9_2_A, x_9n_2_A, x_9_2_U, x_9n_2_U, x_82, cb_ri, cb_rl, cb_rv, cb_th, cb_ite, ps_s, ps_n, u_352_0, u_352_14, c, cb_thH, Int.reduceEq, Int.reduceLT, Int.reduceLE, reduceIte, Int.reduceAdd, Int.reduceSub, Int.reduceMul, Int.reduceNeg, Int.reduceToNat, Bool.false_eq_true, eq_self, if_pos, if_neg]
    show addc 1 (run (lv + 1) 352 11 [aA 11 0, aA 25 0, none] [none] h1) = _
    simp (disch := omega) only [x_6_1, x_1, x_6_0, x_81_1_d0, x_81_1_d1, x_81_1_d2, x_81_1_d3, x_81_1_d4, x_23, x_43, x_60, x_9_2_I, x_9n_2_I, x_9_2_A, x_9n_2_A, x_9_2_U, x_9n_2_U, x_82, cb_ri, cb_rl, cb_rv, cb_th, cb_ite, ps_s, ps_n, u_352_0, u_352_11, u_352_14, Int.reduceEq, Int.reduceLT, Int.reduceLE, reduceIte, Int.reduceAdd, Int.reduceSub, Int.reduceMul, Int.reduceNeg, Int.reduceToNat, Bool.false_eq_true, eq_self, if_pos, if_neg]
    rfl
theorem wa_whose (lv : Nat) (x1 : Int) (h h1 : Hp) (v : Int) (c : cl (lv + 1) 122 [aA 11 0, aI x1] h = ri v h1) : cl (lv + 2) 353 [aA 11 0, aI x1, aA 25 0] h = ri 0 (hset h1 25 0 0 v) := by
  rw [in_353]
  simp (disch := omega) only [x_6_2, x_1, x_6_0, x_4_1, x_81_2_d0, x_81_2_d1, x_81_2_d2, x_81_2_d3, x_81_2_d4, x_23, x_43, x_60, x_9_3_I, x_9n_3_I, x_9_3_A, x_9n_3_A, x_9_3_U, x_9n_3_U, x_82, cb_ri, cb_rl, cb_rv, cb_th, cb_ite, ps_s, ps_n, u_353_0, u_353_12, u_353_15, c, Int.reduceEq, Int.reduceLT, Int.reduceLE, reduceIte, Int.reduceAdd, Int.reduceSub, Int.reduceMul, Int.reduceNeg, Int.reduceToNat, Bool.false_eq_true, eq_self, if_pos, if_neg]
theorem wb_whose (lv : Nat) (x1 : Int) (h h1 : Hp) (e : Nat) (c : cl (lv + 1) 122 [aA 11 0, aI x1] h = th e h1) (hT : 0 < t0 e) : cl (lv + 2) 353 [aA 11 0, aI x1, aA 25 0] h = addc 1 (ri (t0 e : Int) h1) := by
  rw [in_353]
  cases t0_pos hT
  · simp (disch := omega) only [x_6_2, x_1, x_6_0, x_4_1, x_81_2_d0, x_81_2_d1, x_81_2_d2, x_81_2_d3, x_81_2_d4, x_23, x_43, x_60, x_9_3_I, x_9n_3_I, x_9_3_A, x_9n_3_A, x_9_3_U, x_9n_3_U, x_82, cb_ri, cb_rl, cb_rv, cb_th, cb_ite, ps_s, ps_n, u_353_0, u_353_15, c, cb_thH, Int.reduceEq, Int.reduceLT, Int.reduceLE, reduceIte, Int.reduceAdd, Int.reduceSub, Int.reduceMul, Int.reduceNeg, Int.reduceToNat, Bool.false_eq_true, eq_self, if_pos, if_neg]
    show addc 1 (run (lv + 1) 353 12 [aA 11 0, aI x1, aA 25 0, none] [none] h1) = _
    simp (disch := omega) only [x_6_2, x_1, x_6_0, x_4_1, x_81_2_d0, x_81_2_d1, x_81_2_d2, x_81_2_d3, x_81_2_d4, x_23, x_43, x_60, x_9_3_I, x_9n_3_I, x_9_3_A, x_9n_3_A, x_9_3_U, x_9n_3_U, x_82, cb_ri, cb_rl, cb_rv, cb_th, cb_ite, ps_s, ps_n, u_353_0, u_353_12, u_353_15, Int.reduceEq, Int.reduceLT, Int.reduceLE, reduceIte, Int.reduceAdd, Int.reduceSub, Int.reduceMul, Int.reduceNeg, Int.reduceToNat, Bool.false_eq_true, eq_self, if_pos, if_neg]
    rfl
theorem wa_ask (lv : Nat) (h h1 : Hp) (v : Int) (c : cl (lv + 1) 123 [aA 11 0] h = ri v h1) : cl (lv + 2) 354 [aA 11 0, aA 25 0] h = ri 0 (hset h1 25 0 0 v) := by
  rw [in_354]
  simp (disch := omega) only [x_6_1, x_1, x_6_0, x_81_1_d0, x_81_1_d1, x_81_1_d2, x_81_1_d3, x_81_1_d4, x_23, x_43, x_60, x_9_2_I, x_9n_2_I, x_9_2_A, x_9n_2_A, x_9_2_U, x_9n_2_U, x_82, cb_ri, cb_rl, cb_rv, cb_th, cb_ite, ps_s, ps_n, u_354_0, u_354_11, u_354_14, c, Int.reduceEq, Int.reduceLT, Int.reduceLE, reduceIte, Int.reduceAdd, Int.reduceSub, Int.reduceMul, Int.reduceNeg, Int.reduceToNat, Bool.false_eq_true, eq_self, if_pos, if_neg]
theorem wb_ask (lv : Nat) (h h1 : Hp) (e : Nat) (c : cl (lv + 1) 123 [aA 11 0] h = th e h1) (hT : 0 < t0 e) : cl (lv + 2) 354 [aA 11 0, aA 25 0] h = addc 1 (ri (t0 e : Int) h1) := by
  rw [in_354]
  cases t0_pos hT
  · simp (disch := omega) only [x_6_1, x_1, x_6_0, x_81_1_d0, x_81_1_d1, x_81_1_d2, x_81_1_d3, x_81_1_d4, x_23, x_43, x_60, x_9_2_I, x_9n_2_I, x_9_2_A, x_9n_2_A, x_9_2_U, x_9n_2_U, x_82, cb_ri, cb_rl, cb_rv, cb_th, cb_ite, ps_s, ps_n, u_354_0, u_354_14, c, cb_thH, Int.reduceEq, Int.reduceLT, Int.reduceLE, reduceIte, Int.reduceAdd, Int.reduceSub, Int.reduceMul, Int.reduceNeg, Int.reduceToNat, Bool.false_eq_true, eq_self, if_pos, if_neg]
    show addc 1 (run (lv + 1) 354 11 [aA 11 0, aA 25 0, none] [none] h1) = _
    simp (disch := omega) only [x_6_1, x_1, x_6_0, x_81_1_d0, x_81_1_d1, x_81_1_d2, x_81_1_d3, x_81_1_d4, x_23, x_43, x_60, x_9_2_I, x_9n_2_I, x_9_2_A, x_9n_2_A, x_9_2_U, x_9n_2_U, x_82, cb_ri, cb_rl, cb_rv, cb_th, cb_ite, ps_s, ps_n, u_354_0, u_354_11, u_354_14, Int.reduceEq, Int.reduceLT, Int.reduceLE, reduceIte, Int.reduceAdd, Int.reduceSub, Int.reduceMul, Int.reduceNeg, Int.reduceToNat, Bool.false_eq_true, eq_self, if_pos, if_neg]
    rfl
theorem wa_trade (lv : Nat) (x1 x2 : Int) (h h1 : Hp) (v : Int) (c : cl (lv + 1) 124 [aA 11 0, aI x1, aI x2] h = ri v h1) : cl (lv + 2) 355 [aA 11 0, aI x1, aI x2, aA 25 0] h = ri 0 (hset h1 25 0 0 v) := by
  rw [in_355]
  simp (disch := omega) only [x_6_3, x_1, x_6_0, x_4_1, x_4_2, x_81_3_d0, x_81_3_d1, x_81_3_d2, x_81_3_d3, x_81_3_d4, x_23, x_43, x_60, x_9_4_I, x_9n_4_I, x_9_4_A, x_9n_4_A, x_9_4_U, x_9n_4_U, x_82, cb_ri, cb_rl, cb_rv, cb_th, cb_ite, ps_s, ps_n, u_355_0, u_355_13, u_355_17, u_355_21, c, Int.reduceEq, Int.reduceLT, Int.reduceLE, reduceIte, Int.reduceAdd, Int.reduceSub, Int.reduceMul, Int.reduceNeg, Int.reduceToNat, Bool.false_eq_true, eq_self, if_pos, if_neg]
theorem wb_trade (lv : Nat) (x1 x2 : Int) (h h1 : Hp) (e : Nat) (c : cl (lv + 1) 124 [aA 11 0, aI x1, aI x2] h = th e h1) (hT : 0 < t20 e) : cl (lv + 2) 355 [aA 11 0, aI x1, aI x2, aA 25 0] h = addc 1 (ri (t20 e : Int) h1) := by
  rw [in_355]
  rcases t20_pos hT with rfl | rfl
  · simp (disch := omega) only [x_6_3, x_1, x_6_0, x_4_1, x_4_2, x_81_3_d0, x_81_3_d1, x_81_3_d2, x_81_3_d3, x_81_3_d4, x_23, x_43, x_60, x_9_4_I, x_9n_4_I, x_9_4_A, x_9n_4_A, x_9_4_U, x_9n_4_U, x_82, cb_ri, cb_rl, cb_rv, cb_th, cb_ite, ps_s, ps_n, u_355_0, u_355_21, c, cb_thH, Int.reduceEq, Int.reduceLT, Int.reduceLE, reduceIte, Int.reduceAdd, Int.reduceSub, Int.reduceMul, Int.reduceNeg, Int.reduceToNat, Bool.false_eq_true, eq_self, if_pos, if_neg]
    show addc 1 (run (lv + 1) 355 13 [aA 11 0, aI x1, aI x2, aA 25 0, none] [none] h1) = _
    simp (disch := omega) only [x_6_3, x_1, x_6_0, x_4_1, x_4_2, x_81_3_d0, x_81_3_d1, x_81_3_d2, x_81_3_d3, x_81_3_d4, x_23, x_43, x_60, x_9_4_I, x_9n_4_I, x_9_4_A, x_9n_4_A, x_9_4_U, x_9n_4_U, x_82, cb_ri, cb_rl, cb_rv, cb_th, cb_ite, ps_s, ps_n, u_355_0, u_355_13, u_355_17, u_355_21, Int.reduceEq, Int.reduceLT, Int.reduceLE, reduceIte, Int.reduceAdd, Int.reduceSub, Int.reduceMul, Int.reduceNeg, Int.reduceToNat, Bool.false_eq_true, eq_self, if_pos, if_neg]
    rfl
  · simp (disch := omega) only [x_6_3, x_1, x_6_0, x_4_1, x_4_2, x_81_3_d0, x_81_3_d1, x_81_3_d2, x_81_3_d3, x_81_3_d4, x_23, x_43, x_60, x_9_4_I, x_9n_4_I, x_9_4_A, x_9n_4_A, x_9_4_U, x_9n_4_U, x_82, cb_ri, cb_rl, cb_rv, cb_th, cb_ite, ps_s, ps_n, u_355_0, u_355_21, c, cb_thH, Int.reduceEq, Int.reduceLT, Int.reduceLE, reduceIte, Int.reduceAdd, Int.reduceSub, Int.reduceMul, Int.reduceNeg, Int.reduceToNat, Bool.false_eq_true, eq_self, if_pos, if_neg]
    show addc 1 (run (lv + 1) 355 17 [aA 11 0, aI x1, aI x2, aA 25 0, none] [none] h1) = _
    simp (disch := omega) only [x_6_3, x_1, x_6_0, x_4_1, x_4_2, x_81_3_d0, x_81_3_d1, x_81_3_d2, x_81_3_d3, x_81_3_d4, x_23, x_43, x_60, x_9_4_I, x_9n_4_I, x_9_4_A, x_9n_4_A, x_9_4_U, x_9n_4_U, x_82, cb_ri, cb_rl, cb_rv, cb_th, cb_ite, ps_s, ps_n, u_355_0, u_355_13, u_355_17, u_355_21, Int.reduceEq, Int.reduceLT, Int.reduceLE, reduceIte, Int.reduceAdd, Int.reduceSub, Int.reduceMul, Int.reduceNeg, Int.reduceToNat, Bool.false_eq_true, eq_self, if_pos, if_neg]
    rfl
theorem wa_load (lv : Nat) (x1 : Int) (h h1 : Hp) (v : Int) (c : cl (lv + 1) 125 [aA 11 0, aI x1] h = ri v h1) : cl (lv + 2) 356 [aA 11 0, aI x1, aA 25 0] h = ri 0 (hset h1 25 0 0 v) := by
  rw [in_356]
  simp (disch := omega) only [x_6_2, x_1, x_6_0, x_4_1, x_81_2_d0, x_81_2_d1, x_81_2_d2, x_81_2_d3, x_81_2_d4, x_23, x_43, x_60, x_9_3_I, x_9n_3_I, x_9_3_A, x_9n_3_A, x_9_3_U, x_9n_3_U, x_82, cb_ri, cb_rl, cb_rv, cb_th, cb_ite, ps_s, ps_n, u_356_0, u_356_12, u_356_15, c, Int.reduceEq, Int.reduceLT, Int.reduceLE, reduceIte, Int.reduceAdd, Int.reduceSub, Int.reduceMul, Int.reduceNeg, Int.reduceToNat, Bool.false_eq_true, eq_self, if_pos, if_neg]
theorem wb_load (lv : Nat) (x1 : Int) (h h1 : Hp) (e : Nat) (c : cl (lv + 1) 125 [aA 11 0, aI x1] h = th e h1) (hT : 0 < t2 e) : cl (lv + 2) 356 [aA 11 0, aI x1, aA 25 0] h = addc 1 (ri (t2 e : Int) h1) := by
  rw [in_356]
  cases t2_pos hT
  · simp (disch := omega) only [x_6_2, x_1, x_6_0, x_4_1, x_81_2_d0, x_81_2_d1, x_81_2_d2, x_81_2_d3, x_81_2_d4, x_23, x_43, x_60, x_9_3_I, x_9n_3_I, x_9_3_A, x_9n_3_A, x_9_3_U, x_9n_3_U, x_82, cb_ri, cb_rl, cb_rv, cb_th, cb_ite, ps_s, ps_n, u_356_0, u_356_15, c, cb_thH, Int.reduceEq, Int.reduceLT, Int.reduceLE, reduceIte, Int.reduceAdd, Int.reduceSub, Int.reduceMul, Int.reduceNeg, Int.reduceToNat, Bool.false_eq_true, eq_self, if_pos, if_neg]
    show addc 1 (run (lv + 1) 356 12 [aA 11 0, aI x1, aA 25 0, none] [none] h1) = _
    simp (disch := omega) only [x_6_2, x_1, x_6_0, x_4_1, x_81_2_d0, x_81_2_d1, x_81_2_d2, x_81_2_d3, x_81_2_d4, x_23, x_43, x_60, x_9_3_I, x_9n_3_I, x_9_3_A, x_9n_3_A, x_9_3_U, x_9n_3_U, x_82, cb_ri, cb_rl, cb_rv, cb_th, cb_ite, ps_s, ps_n, u_356_0, u_356_12, u_356_15, Int.reduceEq, Int.reduceLT, Int.reduceLE, reduceIte, Int.reduceAdd, Int.reduceSub, Int.reduceMul, Int.reduceNeg, Int.reduceToNat, Bool.false_eq_true, eq_self, if_pos, if_neg]
    rfl
theorem wa_sure (lv : Nat) (x1 x2 x3 : Int) (h h1 : Hp) (v : Int) (c : cl (lv + 1) 126 [aA 11 0, aI x1, aI x2, aI x3] h = ri v h1) (hv : v = 0 ∨ v = 1) : cl (lv + 2) 357 [aA 11 0, aI x1, aI x2, aI x3, aA 25 0] h = ri 0 (hset h1 25 0 0 v) := by
  rw [in_357]
  rcases hv with rfl | rfl
  · simp (disch := omega) only [x_6_4, x_1, x_6_0, x_4_1, x_4_2, x_4_3, x_81_4_d0, x_81_4_d1, x_81_4_d2, x_81_4_d3, x_81_4_d4, x_68, x_2, x_60, x_61, x_43, x_9_5_I, x_9n_5_I, x_9_5_A, x_9n_5_A, x_9_5_U, x_9n_5_U, x_82, cb_ri, cb_rl, cb_rv, cb_th, cb_ite, ps_s, ps_n, u_357_0, u_357_17, u_357_18, u_357_22, u_357_26, u_357_30, c, Int.reduceEq, Int.reduceLT, Int.reduceLE, reduceIte, Int.reduceAdd, Int.reduceSub, Int.reduceMul, Int.reduceNeg, Int.reduceToNat, Bool.false_eq_true, eq_self, if_pos, if_neg]
  · simp (disch := omega) only [x_6_4, x_1, x_6_0, x_4_1, x_4_2, x_4_3, x_81_4_d0, x_81_4_d1, x_81_4_d2, x_81_4_d3, x_81_4_d4, x_68, x_2, x_60, x_61, x_43, x_9_5_I, x_9n_5_I, x_9_5_A, x_9n_5_A, x_9_5_U, x_9n_5_U, x_82, cb_ri, cb_rl, cb_rv, cb_th, cb_ite, ps_s, ps_n, u_357_0, u_357_17, u_357_18, u_357_22, u_357_26, u_357_30, c, Int.reduceEq, Int.reduceLT, Int.reduceLE, reduceIte, Int.reduceAdd, Int.reduceSub, Int.reduceMul, Int.reduceNeg, Int.reduceToNat, Bool.false_eq_true, eq_self, if_pos, if_neg]
theorem wb_sure (lv : Nat) (x1 x2 x3 : Int) (h h1 : Hp) (e : Nat) (c : cl (lv + 1) 126 [aA 11 0, aI x1, aI x2, aI x3] h = th e h1) (hT : 0 < t20 e) : cl (lv + 2) 357 [aA 11 0, aI x1, aI x2, aI x3, aA 25 0] h = addc 1 (ri (t20 e : Int) h1) := by
  rw [in_357]
  rcases t20_pos hT with rfl | rfl
  · simp (disch := omega) only [x_6_4, x_1, x_6_0, x_4_1, x_4_2, x_4_3, x_81_4_d0, x_81_4_d1, x_81_4_d2, x_81_4_d3, x_81_4_d4, x_68, x_2, x_60, x_61, x_43, x_9_5_I, x_9n_5_I, x_9_5_A, x_9n_5_A, x_9_5_U, x_9n_5_U, x_82, cb_ri, cb_rl, cb_rv, cb_th, cb_ite, ps_s, ps_n, u_357_0, u_357_17, u_357_18, u_357_30, c, cb_thH, Int.reduceEq, Int.reduceLT, Int.reduceLE, reduceIte, Int.reduceAdd, Int.reduceSub, Int.reduceMul, Int.reduceNeg, Int.reduceToNat, Bool.false_eq_true, eq_self, if_pos, if_neg]
    show addc 1 (run (lv + 1) 357 22 [aA 11 0, aI x1, aI x2, aI x3, aA 25 0, none] [none] h1) = _
    simp (disch := omega) only [x_6_4, x_1, x_6_0, x_4_1, x_4_2, x_4_3, x_81_4_d0, x_81_4_d1, x_81_4_d2, x_81_4_d3, x_81_4_d4, x_68, x_2, x_60, x_61, x_43, x_9_5_I, x_9n_5_I, x_9_5_A, x_9n_5_A, x_9_5_U, x_9n_5_U, x_82, cb_ri, cb_rl, cb_rv, cb_th, cb_ite, ps_s, ps_n, u_357_0, u_357_17, u_357_18, u_357_22, u_357_26, u_357_30, Int.reduceEq, Int.reduceLT, Int.reduceLE, reduceIte, Int.reduceAdd, Int.reduceSub, Int.reduceMul, Int.reduceNeg, Int.reduceToNat, Bool.false_eq_true, eq_self, if_pos, if_neg]
    rfl
  · simp (disch := omega) only [x_6_4, x_1, x_6_0, x_4_1, x_4_2, x_4_3, x_81_4_d0, x_81_4_d1, x_81_4_d2, x_81_4_d3, x_81_4_d4, x_68, x_2, x_60, x_61, x_43, x_9_5_I, x_9n_5_I, x_9_5_A, x_9n_5_A, x_9_5_U, x_9n_5_U, x_82, cb_ri, cb_rl, cb_rv, cb_th, cb_ite, ps_s, ps_n, u_357_0, u_357_17, u_357_18, u_357_30, c, cb_thH, Int.reduceEq, Int.reduceLT, Int.reduceLE, reduceIte, Int.reduceAdd, Int.reduceSub, Int.reduceMul, Int.reduceNeg, Int.reduceToNat, Bool.false_eq_true, eq_self, if_pos, if_neg]
    show addc 1 (run (lv + 1) 357 26 [aA 11 0, aI x1, aI x2, aI x3, aA 25 0, none] [none] h1) = _
    simp (disch := omega) only [x_6_4, x_1, x_6_0, x_4_1, x_4_2, x_4_3, x_81_4_d0, x_81_4_d1, x_81_4_d2, x_81_4_d3, x_81_4_d4, x_68, x_2, x_60, x_61, x_43, x_9_5_I, x_9n_5_I, x_9_5_A, x_9n_5_A, x_9_5_U, x_9n_5_U, x_82, cb_ri, cb_rl, cb_rv, cb_th, cb_ite, ps_s, ps_n, u_357_0, u_357_17, u_357_18, u_357_22, u_357_26, u_357_30, Int.reduceEq, Int.reduceLT, Int.reduceLE, reduceIte, Int.reduceAdd, Int.reduceSub, Int.reduceMul, Int.reduceNeg, Int.reduceToNat, Bool.false_eq_true, eq_self, if_pos, if_neg]
    rfl
theorem wa_doubt (lv : Nat) (x1 : Int) (h h1 : Hp) (v : Int) (c : cl (lv + 1) 127 [aA 11 0, aI x1] h = ri v h1) : cl (lv + 2) 358 [aA 11 0, aI x1, aA 25 0] h = ri 0 (hset h1 25 0 0 v) := by
  rw [in_358]
  simp (disch := omega) only [x_6_2, x_1, x_6_0, x_4_1, x_81_2_d0, x_81_2_d1, x_81_2_d2, x_81_2_d3, x_81_2_d4, x_23, x_43, x_60, x_9_3_I, x_9n_3_I, x_9_3_A, x_9n_3_A, x_9_3_U, x_9n_3_U, x_82, cb_ri, cb_rl, cb_rv, cb_th, cb_ite, ps_s, ps_n, u_358_0, u_358_12, u_358_15, c, Int.reduceEq, Int.reduceLT, Int.reduceLE, reduceIte, Int.reduceAdd, Int.reduceSub, Int.reduceMul, Int.reduceNeg, Int.reduceToNat, Bool.false_eq_true, eq_self, if_pos, if_neg]
theorem wb_doubt (lv : Nat) (x1 : Int) (h h1 : Hp) (e : Nat) (c : cl (lv + 1) 127 [aA 11 0, aI x1] h = th e h1) (hT : 0 < t2 e) : cl (lv + 2) 358 [aA 11 0, aI x1, aA 25 0] h = addc 1 (ri (t2 e : Int) h1) := by
  rw [in_358]
  cases t2_pos hT
  · simp (disch := omega) only [x_6_2, x_1, x_6_0, x_4_1, x_81_2_d0, x_81_2_d1, x_81_2_d2, x_81_2_d3, x_81_2_d4, x_23, x_43, x_60, x_9_3_I, x_9n_3_I, x_9_3_A, x_9n_3_A, x_9_3_U, x_9n_3_U, x_82, cb_ri, cb_rl, cb_rv, cb_th, cb_ite, ps_s, ps_n, u_358_0, u_358_15, c, cb_thH, Int.reduceEq, Int.reduceLT, Int.reduceLE, reduceIte, Int.reduceAdd, Int.reduceSub, Int.reduceMul, Int.reduceNeg, Int.reduceToNat, Bool.false_eq_true, eq_self, if_pos, if_neg]
    show addc 1 (run (lv + 1) 358 12 [aA 11 0, aI x1, aA 25 0, none] [none] h1) = _
    simp (disch := omega) only [x_6_2, x_1, x_6_0, x_4_1, x_81_2_d0, x_81_2_d1, x_81_2_d2, x_81_2_d3, x_81_2_d4, x_23, x_43, x_60, x_9_3_I, x_9n_3_I, x_9_3_A, x_9n_3_A, x_9_3_U, x_9n_3_U, x_82, cb_ri, cb_rl, cb_rv, cb_th, cb_ite, ps_s, ps_n, u_358_0, u_358_12, u_358_15, Int.reduceEq, Int.reduceLT, Int.reduceLE, reduceIte, Int.reduceAdd, Int.reduceSub, Int.reduceMul, Int.reduceNeg, Int.reduceToNat, Bool.false_eq_true, eq_self, if_pos, if_neg]
    rfl
theorem wa_chance (lv : Nat) (x1 x2 : Int) (h h1 : Hp) (v : Int) (c : cl (lv + 1) 128 [aA 11 0, aI x1, aI x2] h = ri v h1) : cl (lv + 2) 359 [aA 11 0, aI x1, aI x2, aA 25 0] h = ri 0 (hset h1 25 0 0 v) := by
  rw [in_359]
  simp (disch := omega) only [x_6_3, x_1, x_6_0, x_4_1, x_4_2, x_81_3_d0, x_81_3_d1, x_81_3_d2, x_81_3_d3, x_81_3_d4, x_23, x_43, x_60, x_9_4_I, x_9n_4_I, x_9_4_A, x_9n_4_A, x_9_4_U, x_9n_4_U, x_82, cb_ri, cb_rl, cb_rv, cb_th, cb_ite, ps_s, ps_n, u_359_0, u_359_13, u_359_17, c, Int.reduceEq, Int.reduceLT, Int.reduceLE, reduceIte, Int.reduceAdd, Int.reduceSub, Int.reduceMul, Int.reduceNeg, Int.reduceToNat, Bool.false_eq_true, eq_self, if_pos, if_neg]
theorem wb_chance (lv : Nat) (x1 x2 : Int) (h h1 : Hp) (e : Nat) (c : cl (lv + 1) 128 [aA 11 0, aI x1, aI x2] h = th e h1) (hT : 0 < t0 e) : cl (lv + 2) 359 [aA 11 0, aI x1, aI x2, aA 25 0] h = addc 1 (ri (t0 e : Int) h1) := by
  rw [in_359]
  cases t0_pos hT
  · simp (disch := omega) only [x_6_3, x_1, x_6_0, x_4_1, x_4_2, x_81_3_d0, x_81_3_d1, x_81_3_d2, x_81_3_d3, x_81_3_d4, x_23, x_43, x_60, x_9_4_I, x_9n_4_I, x_9_4_A, x_9n_4_A, x_9_4_U, x_9n_4_U, x_82, cb_ri, cb_rl, cb_rv, cb_th, cb_ite, ps_s, ps_n, u_359_0, u_359_17, c, cb_thH, Int.reduceEq, Int.reduceLT, Int.reduceLE, reduceIte, Int.reduceAdd, Int.reduceSub, Int.reduceMul, Int.reduceNeg, Int.reduceToNat, Bool.false_eq_true, eq_self, if_pos, if_neg]
    show addc 1 (run (lv + 1) 359 13 [aA 11 0, aI x1, aI x2, aA 25 0, none] [none] h1) = _
    simp (disch := omega) only [x_6_3, x_1, x_6_0, x_4_1, x_4_2, x_81_3_d0, x_81_3_d1, x_81_3_d2, x_81_3_d3, x_81_3_d4, x_23, x_43, x_60, x_9_4_I, x_9n_4_I, x_9_4_A, x_9n_4_A, x_9_4_U, x_9n_4_U, x_82, cb_ri, cb_rl, cb_rv, cb_th, cb_ite, ps_s, ps_n, u_359_0, u_359_13, u_359_17, Int.reduceEq, Int.reduceLT, Int.reduceLE, reduceIte, Int.reduceAdd, Int.reduceSub, Int.reduceMul, Int.reduceNeg, Int.reduceToNat, Bool.false_eq_true, eq_self, if_pos, if_neg]
    rfl
theorem wa_worst (lv : Nat) (x1 : Int) (h h1 : Hp) (v : Int) (c : cl (lv + 1) 130 [aA 11 0, aI x1] h = ri v h1) : cl (lv + 2) 360 [aA 11 0, aI x1, aA 25 0] h = ri 0 (hset h1 25 0 0 v) := by
  rw [in_360]
  simp (disch := omega) only [x_6_2, x_1, x_6_0, x_4_1, x_81_2_d0, x_81_2_d1, x_81_2_d2, x_81_2_d3, x_81_2_d4, x_23, x_43, x_60, x_9_3_I, x_9n_3_I, x_9_3_A, x_9n_3_A, x_9_3_U, x_9n_3_U, x_82, cb_ri, cb_rl, cb_rv, cb_th, cb_ite, ps_s, ps_n, u_360_0, u_360_12, u_360_15, c, Int.reduceEq, Int.reduceLT, Int.reduceLE, reduceIte, Int.reduceAdd, Int.reduceSub, Int.reduceMul, Int.reduceNeg, Int.reduceToNat, Bool.false_eq_true, eq_self, if_pos, if_neg]
theorem wb_worst (lv : Nat) (x1 : Int) (h h1 : Hp) (e : Nat) (c : cl (lv + 1) 130 [aA 11 0, aI x1] h = th e h1) (hT : 0 < t2 e) : cl (lv + 2) 360 [aA 11 0, aI x1, aA 25 0] h = addc 1 (ri (t2 e : Int) h1) := by
  rw [in_360]
  cases t2_pos hT
  · simp (disch := omega) only [x_6_2, x_1, x_6_0, x_4_1, x_81_2_d0, x_81_2_d1, x_81_2_d2, x_81_2_d3, x_81_2_d4, x_23, x_43, x_60, x_9_3_I, x_9n_3_I, x_9_3_A, x_9n_3_A, x_9_3_U, x_9n_3_U, x_82, cb_ri, cb_rl, cb_rv, cb_th, cb_ite, ps_s, ps_n, u_360_0, u_360_15, c, cb_thH, Int.reduceEq, Int.reduceLT, Int.reduceLE, reduceIte, Int.reduceAdd, Int.reduceSub, Int.reduceMul, Int.reduceNeg, Int.reduceToNat, Bool.false_eq_true, eq_self, if_pos, if_neg]
    show addc 1 (run (lv + 1) 360 12 [aA 11 0, aI x1, aA 25 0, none] [none] h1) = _
    simp (disch := omega) only [x_6_2, x_1, x_6_0, x_4_1, x_81_2_d0, x_81_2_d1, x_81_2_d2, x_81_2_d3, x_81_2_d4, x_23, x_43, x_60, x_9_3_I, x_9n_3_I, x_9_3_A, x_9n_3_A, x_9_3_U, x_9n_3_U, x_82, cb_ri, cb_rl, cb_rv, cb_th, cb_ite, ps_s, ps_n, u_360_0, u_360_12, u_360_15, Int.reduceEq, Int.reduceLT, Int.reduceLE, reduceIte, Int.reduceAdd, Int.reduceSub, Int.reduceMul, Int.reduceNeg, Int.reduceToNat, Bool.false_eq_true, eq_self, if_pos, if_neg]
    rfl
theorem wa_rests (lv : Nat) (x1 : Int) (h h1 : Hp) (v : Int) (c : cl (lv + 1) 131 [aA 11 0, aI x1] h = ri v h1) : cl (lv + 2) 361 [aA 11 0, aI x1, aA 25 0] h = ri 0 (hset h1 25 0 0 v) := by
  rw [in_361]
  simp (disch := omega) only [x_6_2, x_1, x_6_0, x_4_1, x_81_2_d0, x_81_2_d1, x_81_2_d2, x_81_2_d3, x_81_2_d4, x_23, x_43, x_60, x_9_3_I, x_9n_3_I, x_9_3_A, x_9n_3_A, x_9_3_U, x_9n_3_U, x_82, cb_ri, cb_rl, cb_rv, cb_th, cb_ite, ps_s, ps_n, u_361_0, u_361_12, u_361_15, c, Int.reduceEq, Int.reduceLT, Int.reduceLE, reduceIte, Int.reduceAdd, Int.reduceSub, Int.reduceMul, Int.reduceNeg, Int.reduceToNat, Bool.false_eq_true, eq_self, if_pos, if_neg]
theorem wb_rests (lv : Nat) (x1 : Int) (h h1 : Hp) (e : Nat) (c : cl (lv + 1) 131 [aA 11 0, aI x1] h = th e h1) (hT : 0 < t2 e) : cl (lv + 2) 361 [aA 11 0, aI x1, aA 25 0] h = addc 1 (ri (t2 e : Int) h1) := by
  rw [in_361]
  cases t2_pos hT
  · simp (disch := omega) only [x_6_2, x_1, x_6_0, x_4_1, x_81_2_d0, x_81_2_d1, x_81_2_d2, x_81_2_d3, x_81_2_d4, x_23, x_43, x_60, x_9_3_I, x_9n_3_I, x_9_3_A, x_9n_3_A, x_9_3_U, x_9n_3_U, x_82, cb_ri, cb_rl, cb_rv, cb_th, cb_ite, ps_s, ps_n, u_361_0, u_361_15, c, cb_thH, Int.reduceEq, Int.reduceLT, Int.reduceLE, reduceIte, Int.reduceAdd, Int.reduceSub, Int.reduceMul, Int.reduceNeg, Int.reduceToNat, Bool.false_eq_true, eq_self, if_pos, if_neg]
    show addc 1 (run (lv + 1) 361 12 [aA 11 0, aI x1, aA 25 0, none] [none] h1) = _
    simp (disch := omega) only [x_6_2, x_1, x_6_0, x_4_1, x_81_2_d0, x_81_2_d1, x_81_2_d2, x_81_2_d3, x_81_2_d4, x_23, x_43, x_60, x_9_3_I, x_9n_3_I, x_9_3_A, x_9n_3_A, x_9_3_U, x_9n_3_U, x_82, cb_ri, cb_rl, cb_rv, cb_th, cb_ite, ps_s, ps_n, u_361_0, u_361_12, u_361_15, Int.reduceEq, Int.reduceLT, Int.reduceLE, reduceIte, Int.reduceAdd, Int.reduceSub, Int.reduceMul, Int.reduceNeg, Int.reduceToNat, Bool.false_eq_true, eq_self, if_pos, if_neg]
    rfl
theorem wa_span (lv : Nat) (x1 : Int) (h h1 : Hp) (v : Int) (c : cl (lv + 1) 133 [aA 11 0, aI x1] h = ri v h1) : cl (lv + 2) 362 [aA 11 0, aI x1, aA 25 0] h = ri 0 (hset h1 25 0 0 v) := by
  rw [in_362]
  simp (disch := omega) only [x_6_2, x_1, x_6_0, x_4_1, x_81_2_d0, x_81_2_d1, x_81_2_d2, x_81_2_d3, x_81_2_d4, x_23, x_43, x_60, x_9_3_I, x_9n_3_I, x_9_3_A, x_9n_3_A, x_9_3_U, x_9n_3_U, x_82, cb_ri, cb_rl, cb_rv, cb_th, cb_ite, ps_s, ps_n, u_362_0, u_362_12, u_362_15, c, Int.reduceEq, Int.reduceLT, Int.reduceLE, reduceIte, Int.reduceAdd, Int.reduceSub, Int.reduceMul, Int.reduceNeg, Int.reduceToNat, Bool.false_eq_true, eq_self, if_pos, if_neg]
theorem wb_span (lv : Nat) (x1 : Int) (h h1 : Hp) (e : Nat) (c : cl (lv + 1) 133 [aA 11 0, aI x1] h = th e h1) (hT : 0 < t2 e) : cl (lv + 2) 362 [aA 11 0, aI x1, aA 25 0] h = addc 1 (ri (t2 e : Int) h1) := by
  rw [in_362]
  cases t2_pos hT
  · simp (disch := omega) only [x_6_2, x_1, x_6_0, x_4_1, x_81_2_d0, x_81_2_d1, x_81_2_d2, x_81_2_d3, x_81_2_d4, x_23, x_43, x_60, x_9_3_I, x_9n_3_I, x_9_3_A, x_9n_3_A, x_9_3_U, x_9n_3_U, x_82, cb_ri, cb_rl, cb_rv, cb_th, cb_ite, ps_s, ps_n, u_362_0, u_362_15, c, cb_thH, Int.reduceEq, Int.reduceLT, Int.reduceLE, reduceIte, Int.reduceAdd, Int.reduceSub, Int.reduceMul, Int.reduceNeg, Int.reduceToNat, Bool.false_eq_true, eq_self, if_pos, if_neg]
    show addc 1 (run (lv + 1) 362 12 [aA 11 0, aI x1, aA 25 0, none] [none] h1) = _
    simp (disch := omega) only [x_6_2, x_1, x_6_0, x_4_1, x_81_2_d0, x_81_2_d1, x_81_2_d2, x_81_2_d3, x_81_2_d4, x_23, x_43, x_60, x_9_3_I, x_9n_3_I, x_9_3_A, x_9n_3_A, x_9_3_U, x_9n_3_U, x_82, cb_ri, cb_rl, cb_rv, cb_th, cb_ite, ps_s, ps_n, u_362_0, u_362_12, u_362_15, Int.reduceEq, Int.reduceLT, Int.reduceLE, reduceIte, Int.reduceAdd, Int.reduceSub, Int.reduceMul, Int.reduceNeg, Int.reduceToNat, Bool.false_eq_true, eq_self, if_pos, if_neg]
    rfl
theorem wa_ahead (lv : Nat) (x1 x2 x3 : Int) (h h1 : Hp) (v : Int) (c : cl (lv + 1) 138 [aA 11 0, aI x1, aI x2, aI x3] h = ri v h1) : cl (lv + 2) 363 [aA 11 0, aI x1, aI x2, aI x3, aA 25 0] h = ri 0 (hset h1 25 0 0 v) := by
  rw [in_363]
  simp (disch := omega) only [x_6_4, x_1, x_6_0, x_4_1, x_4_2, x_4_3, x_81_4_d0, x_81_4_d1, x_81_4_d2, x_81_4_d3, x_81_4_d4, x_23, x_43, x_60, x_9_5_I, x_9n_5_I, x_9_5_A, x_9n_5_A, x_9_5_U, x_9n_5_U, x_82, cb_ri, cb_rl, cb_rv, cb_th, cb_ite, ps_s, ps_n, u_363_0, u_363_15, u_363_19, u_363_23, u_363_27, c, Int.reduceEq, Int.reduceLT, Int.reduceLE, reduceIte, Int.reduceAdd, Int.reduceSub, Int.reduceMul, Int.reduceNeg, Int.reduceToNat, Bool.false_eq_true, eq_self, if_pos, if_neg]
theorem wb_ahead (lv : Nat) (x1 x2 x3 : Int) (h h1 : Hp) (e : Nat) (c : cl (lv + 1) 138 [aA 11 0, aI x1, aI x2, aI x3] h = th e h1) (hT : 0 < t204 e) : cl (lv + 2) 363 [aA 11 0, aI x1, aI x2, aI x3, aA 25 0] h = addc 1 (ri (t204 e : Int) h1) := by
  rw [in_363]
  rcases t204_pos hT with rfl | rfl | rfl
  · simp (disch := omega) only [x_6_4, x_1, x_6_0, x_4_1, x_4_2, x_4_3, x_81_4_d0, x_81_4_d1, x_81_4_d2, x_81_4_d3, x_81_4_d4, x_23, x_43, x_60, x_9_5_I, x_9n_5_I, x_9_5_A, x_9n_5_A, x_9_5_U, x_9n_5_U, x_82, cb_ri, cb_rl, cb_rv, cb_th, cb_ite, ps_s, ps_n, u_363_0, u_363_27, c, cb_thH, Int.reduceEq, Int.reduceLT, Int.reduceLE, reduceIte, Int.reduceAdd, Int.reduceSub, Int.reduceMul, Int.reduceNeg, Int.reduceToNat, Bool.false_eq_true, eq_self, if_pos, if_neg]
    show addc 1 (run (lv + 1) 363 15 [aA 11 0, aI x1, aI x2, aI x3, aA 25 0, none] [none] h1) = _
    simp (disch := omega) only [x_6_4, x_1, x_6_0, x_4_1, x_4_2, x_4_3, x_81_4_d0, x_81_4_d1, x_81_4_d2, x_81_4_d3, x_81_4_d4, x_23, x_43, x_60, x_9_5_I, x_9n_5_I, x_9_5_A, x_9n_5_A, x_9_5_U, x_9n_5_U, x_82, cb_ri, cb_rl, cb_rv, cb_th, cb_ite, ps_s, ps_n, u_363_0, u_363_15, u_363_19, u_363_23, u_363_27, Int.reduceEq, Int.reduceLT, Int.reduceLE, reduceIte, Int.reduceAdd, Int.reduceSub, Int.reduceMul, Int.reduceNeg, Int.reduceToNat, Bool.false_eq_true, eq_self, if_pos, if_neg]
    rfl
  · simp (disch := omega) only [x_6_4, x_1, x_6_0, x_4_1, x_4_2, x_4_3, x_81_4_d0, x_81_4_d1, x_81_4_d2, x_81_4_d3, x_81_4_d4, x_23, x_43, x_60, x_9_5_I, x_9n_5_I, x_9_5_A, x_9n_5_A, x_9_5_U, x_9n_5_U, x_82, cb_ri, cb_rl, cb_rv, cb_th, cb_ite, ps_s, ps_n, u_363_0, u_363_27, c, cb_thH, Int.reduceEq, Int.reduceLT, Int.reduceLE, reduceIte, Int.reduceAdd, Int.reduceSub, Int.reduceMul, Int.reduceNeg, Int.reduceToNat, Bool.false_eq_true, eq_self, if_pos, if_neg]
    show addc 1 (run (lv + 1) 363 19 [aA 11 0, aI x1, aI x2, aI x3, aA 25 0, none] [none] h1) = _
    simp (disch := omega) only [x_6_4, x_1, x_6_0, x_4_1, x_4_2, x_4_3, x_81_4_d0, x_81_4_d1, x_81_4_d2, x_81_4_d3, x_81_4_d4, x_23, x_43, x_60, x_9_5_I, x_9n_5_I, x_9_5_A, x_9n_5_A, x_9_5_U, x_9n_5_U, x_82, cb_ri, cb_rl, cb_rv, cb_th, cb_ite, ps_s, ps_n, u_363_0, u_363_15, u_363_19, u_363_23, u_363_27, Int.reduceEq, Int.reduceLT, Int.reduceLE, reduceIte, Int.reduceAdd, Int.reduceSub, Int.reduceMul, Int.reduceNeg, Int.reduceToNat, Bool.false_eq_true, eq_self, if_pos, if_neg]
    rfl
  · simp (disch := omega) only [x_6_4, x_1, x_6_0, x_4_1, x_4_2, x_4_3, x_81_4_d0, x_81_4_d1, x_81_4_d2, x_81_4_d3, x_81_4_d4, x_23, x_43, x_60, x_9_5_I, x_9n_5_I, x_9_5_A, x_9n_5_A, x_9_5_U, x_9n_5_U, x_82, cb_ri, cb_rl, cb_rv, cb_th, cb_ite, ps_s, ps_n, u_363_0, u_363_27, c, cb_thH, Int.reduceEq, Int.reduceLT, Int.reduceLE, reduceIte, Int.reduceAdd, Int.reduceSub, Int.reduceMul, Int.reduceNeg, Int.reduceToNat, Bool.false_eq_true, eq_self, if_pos, if_neg]
    show addc 1 (run (lv + 1) 363 23 [aA 11 0, aI x1, aI x2, aI x3, aA 25 0, none] [none] h1) = _
    simp (disch := omega) only [x_6_4, x_1, x_6_0, x_4_1, x_4_2, x_4_3, x_81_4_d0, x_81_4_d1, x_81_4_d2, x_81_4_d3, x_81_4_d4, x_23, x_43, x_60, x_9_5_I, x_9n_5_I, x_9_5_A, x_9n_5_A, x_9_5_U, x_9n_5_U, x_82, cb_ri, cb_rl, cb_rv, cb_th, cb_ite, ps_s, ps_n, u_363_0, u_363_15, u_363_19, u_363_23, u_363_27, Int.reduceEq, Int.reduceLT, Int.reduceLE, reduceIte, Int.reduceAdd, Int.reduceSub, Int.reduceMul, Int.reduceNeg, Int.reduceToNat, Bool.false_eq_true, eq_self, if_pos, if_neg]
    rfl
theorem wa_trial (lv : Nat) (x1 x2 : Int) (h h1 : Hp) (v : Int) (c : cl (lv + 1) 139 [aA 11 0, aI x1, aI x2] h = ri v h1) : cl (lv + 2) 364 [aA 11 0, aI x1, aI x2, aA 25 0] h = ri 0 (hset h1 25 0 0 v) := by
  rw [in_364]
  simp (disch := omega) only [x_6_3, x_1, x_6_0, x_4_1, x_4_2, x_81_3_d0, x_81_3_d1, x_81_3_d2, x_81_3_d3, x_81_3_d4, x_23, x_43, x_60, x_9_4_I, x_9n_4_I, x_9_4_A, x_9n_4_A, x_9_4_U, x_9n_4_U, x_82, cb_ri, cb_rl, cb_rv, cb_th, cb_ite, ps_s, ps_n, u_364_0, u_364_13, u_364_17, c, Int.reduceEq, Int.reduceLT, Int.reduceLE, reduceIte, Int.reduceAdd, Int.reduceSub, Int.reduceMul, Int.reduceNeg, Int.reduceToNat, Bool.false_eq_true, eq_self, if_pos, if_neg]
theorem wb_trial (lv : Nat) (x1 x2 : Int) (h h1 : Hp) (e : Nat) (c : cl (lv + 1) 139 [aA 11 0, aI x1, aI x2] h = th e h1) (hT : 0 < t0 e) : cl (lv + 2) 364 [aA 11 0, aI x1, aI x2, aA 25 0] h = addc 1 (ri (t0 e : Int) h1) := by
  rw [in_364]
  cases t0_pos hT
  · simp (disch := omega) only [x_6_3, x_1, x_6_0, x_4_1, x_4_2, x_81_3_d0, x_81_3_d1, x_81_3_d2, x_81_3_d3, x_81_3_d4, x_23, x_43, x_60, x_9_4_I, x_9n_4_I, x_9_4_A, x_9n_4_A, x_9_4_U, x_9n_4_U, x_82, cb_ri, cb_rl, cb_rv, cb_th, cb_ite, ps_s, ps_n, u_364_0, u_364_17, c, cb_thH, Int.reduceEq, Int.reduceLT, Int.reduceLE, reduceIte, Int.reduceAdd, Int.reduceSub, Int.reduceMul, Int.reduceNeg, Int.reduceToNat, Bool.false_eq_true, eq_self, if_pos, if_neg]
    show addc 1 (run (lv + 1) 364 13 [aA 11 0, aI x1, aI x2, aA 25 0, none] [none] h1) = _
    simp (disch := omega) only [x_6_3, x_1, x_6_0, x_4_1, x_4_2, x_81_3_d0, x_81_3_d1, x_81_3_d2, x_81_3_d3, x_81_3_d4, x_23, x_43, x_60, x_9_4_I, x_9n_4_I, x_9_4_A, x_9n_4_A, x_9_4_U, x_9n_4_U, x_82, cb_ri, cb_rl, cb_rv, cb_th, cb_ite, ps_s, ps_n, u_364_0, u_364_13, u_364_17, Int.reduceEq, Int.reduceLT, Int.reduceLE, reduceIte, Int.reduceAdd, Int.reduceSub, Int.reduceMul, Int.reduceNeg, Int.reduceToNat, Bool.false_eq_true, eq_self, if_pos, if_neg]
    rfl
theorem wa_bounds (lv : Nat) (x1 x2 : Int) (h h1 : Hp) (v : Int) (c : cl (lv + 1) 140 [aA 11 0, aI x1, aI x2] h = ri v h1) : cl (lv + 2) 365 [aA 11 0, aI x1, aI x2, aA 25 0] h = ri 0 (hset h1 25 0 0 v) := by
  rw [in_365]
  simp (disch := omega) only [x_6_3, x_1, x_6_0, x_4_1, x_4_2, x_81_3_d0, x_81_3_d1, x_81_3_d2, x_81_3_d3, x_81_3_d4, x_23, x_43, x_60, x_9_4_I, x_9n_4_I, x_9_4_A, x_9n_4_A, x_9_4_U, x_9n_4_U, x_82, cb_ri, cb_rl, cb_rv, cb_th, cb_ite, ps_s, ps_n, u_365_0, u_365_13, u_365_17, c, Int.reduceEq, Int.reduceLT, Int.reduceLE, reduceIte, Int.reduceAdd, Int.reduceSub, Int.reduceMul, Int.reduceNeg, Int.reduceToNat, Bool.false_eq_true, eq_self, if_pos, if_neg]
theorem wb_bounds (lv : Nat) (x1 x2 : Int) (h h1 : Hp) (e : Nat) (c : cl (lv + 1) 140 [aA 11 0, aI x1, aI x2] h = th e h1) (hT : 0 < t0 e) : cl (lv + 2) 365 [aA 11 0, aI x1, aI x2, aA 25 0] h = addc 1 (ri (t0 e : Int) h1) := by
  rw [in_365]
  cases t0_pos hT
  · simp (disch := omega) only [x_6_3, x_1, x_6_0, x_4_1, x_4_2, x_81_3_d0, x_81_3_d1, x_81_3_d2, x_81_3_d3, x_81_3_d4, x_23, x_43, x_60, x_9_4_I, x_9n_4_I, x_9_4_A, x_9n_4_A, x_9_4_U, x_9n_4_U, x_82, cb_ri, cb_rl, cb_rv, cb_th, cb_ite, ps_s, ps_n, u_365_0, u_365_17, c, cb_thH, Int.reduceEq, Int.reduceLT, Int.reduceLE, reduceIte, Int.reduceAdd, Int.reduceSub, Int.reduceMul, Int.reduceNeg, Int.reduceToNat, Bool.false_eq_true, eq_self, if_pos, if_neg]
    show addc 1 (run (lv + 1) 365 13 [aA 11 0, aI x1, aI x2, aA 25 0, none] [none] h1) = _
    simp (disch := omega) only [x_6_3, x_1, x_6_0, x_4_1, x_4_2, x_81_3_d0, x_81_3_d1, x_81_3_d2, x_81_3_d3, x_81_3_d4, x_23, x_43, x_60, x_9_4_I, x_9n_4_I, x_9_4_A, x_9n_4_A, x_9_4_U, x_9n_4_U, x_82, cb_ri, cb_rl, cb_rv, cb_th, cb_ite, ps_s, ps_n, u_365_0, u_365_13, u_365_17, Int.reduceEq, Int.reduceLT, Int.reduceLE, reduceIte, Int.reduceAdd, Int.reduceSub, Int.reduceMul, Int.reduceNeg, Int.reduceToNat, Bool.false_eq_true, eq_self, if_pos, if_neg]
    rfl
theorem wa_led (lv : Nat) (x1 x2 : Int) (h h1 : Hp) (v : Int) (c : cl (lv + 1) 141 [aA 11 0, aI x1, aI x2] h = ri v h1) : cl (lv + 2) 366 [aA 11 0, aI x1, aI x2, aA 25 0] h = ri 0 (hset h1 25 0 0 v) := by
  rw [in_366]
  simp (disch := omega) only [x_6_3, x_1, x_6_0, x_4_1, x_4_2, x_81_3_d0, x_81_3_d1, x_81_3_d2, x_81_3_d3, x_81_3_d4, x_23, x_43, x_60, x_9_4_I, x_9n_4_I, x_9_4_A, x_9n_4_A, x_9_4_U, x_9n_4_U, x_82, cb_ri, cb_rl, cb_rv, cb_th, cb_ite, ps_s, ps_n, u_366_0, u_366_13, u_366_17, c, Int.reduceEq, Int.reduceLT, Int.reduceLE, reduceIte, Int.reduceAdd, Int.reduceSub, Int.reduceMul, Int.reduceNeg, Int.reduceToNat, Bool.false_eq_true, eq_self, if_pos, if_neg]
theorem wb_led (lv : Nat) (x1 x2 : Int) (h h1 : Hp) (e : Nat) (c : cl (lv + 1) 141 [aA 11 0, aI x1, aI x2] h = th e h1) (hT : 0 < t2 e) : cl (lv + 2) 366 [aA 11 0, aI x1, aI x2, aA 25 0] h = addc 1 (ri (t2 e : Int) h1) := by
  rw [in_366]
  cases t2_pos hT
  · simp (disch := omega) only [x_6_3, x_1, x_6_0, x_4_1, x_4_2, x_81_3_d0, x_81_3_d1, x_81_3_d2, x_81_3_d3, x_81_3_d4, x_23, x_43, x_60, x_9_4_I, x_9n_4_I, x_9_4_A, x_9n_4_A, x_9_4_U, x_9n_4_U, x_82, cb_ri, cb_rl, cb_rv, cb_th, cb_ite, ps_s, ps_n, u_366_0, u_366_17, c, cb_thH, Int.reduceEq, Int.reduceLT, Int.reduceLE, reduceIte, Int.reduceAdd, Int.reduceSub, Int.reduceMul, Int.reduceNeg, Int.reduceToNat, Bool.false_eq_true, eq_self, if_pos, if_neg]
    show addc 1 (run (lv + 1) 366 13 [aA 11 0, aI x1, aI x2, aA 25 0, none] [none] h1) = _
    simp (disch := omega) only [x_6_3, x_1, x_6_0, x_4_1, x_4_2, x_81_3_d0, x_81_3_d1, x_81_3_d2, x_81_3_d3, x_81_3_d4, x_23, x_43, x_60, x_9_4_I, x_9n_4_I, x_9_4_A, x_9n_4_A, x_9_4_U, x_9n_4_U, x_82, cb_ri, cb_rl, cb_rv, cb_th, cb_ite, ps_s, ps_n, u_366_0, u_366_13, u_366_17, Int.reduceEq, Int.reduceLT, Int.reduceLE, reduceIte, Int.reduceAdd, Int.reduceSub, Int.reduceMul, Int.reduceNeg, Int.reduceToNat, Bool.false_eq_true, eq_self, if_pos, if_neg]
    rfl
theorem wa_log (lv : Nat) (x1 x2 : Int) (h h1 : Hp) (v : Int) (c : cl (lv + 1) 142 [aA 11 0, aI x1, aI x2] h = ri v h1) : cl (lv + 2) 367 [aA 11 0, aI x1, aI x2, aA 25 0] h = ri 0 (hset h1 25 0 0 v) := by
  rw [in_367]
  simp (disch := omega) only [x_6_3, x_1, x_6_0, x_4_1, x_4_2, x_81_3_d0, x_81_3_d1, x_81_3_d2, x_81_3_d3, x_81_3_d4, x_23, x_43, x_60, x_9_4_I, x_9n_4_I, x_9_4_A, x_9n_4_A, x_9_4_U, x_9n_4_U, x_82, cb_ri, cb_rl, cb_rv, cb_th, cb_ite, ps_s, ps_n, u_367_0, u_367_13, u_367_17, c, Int.reduceEq, Int.reduceLT, Int.reduceLE, reduceIte, Int.reduceAdd, Int.reduceSub, Int.reduceMul, Int.reduceNeg, Int.reduceToNat, Bool.false_eq_true, eq_self, if_pos, if_neg]
theorem wb_log (lv : Nat) (x1 x2 : Int) (h h1 : Hp) (e : Nat) (c : cl (lv + 1) 142 [aA 11 0, aI x1, aI x2] h = th e h1) (hT : 0 < t4 e) : cl (lv + 2) 367 [aA 11 0, aI x1, aI x2, aA 25 0] h = addc 1 (ri (t4 e : Int) h1) := by
  rw [in_367]
  cases t4_pos hT
  · simp (disch := omega) only [x_6_3, x_1, x_6_0, x_4_1, x_4_2, x_81_3_d0, x_81_3_d1, x_81_3_d2, x_81_3_d3, x_81_3_d4, x_23, x_43, x_60, x_9_4_I, x_9n_4_I, x_9_4_A, x_9n_4_A, x_9_4_U, x_9n_4_U, x_82, cb_ri, cb_rl, cb_rv, cb_th, cb_ite, ps_s, ps_n, u_367_0, u_367_17, c, cb_thH, Int.reduceEq, Int.reduceLT, Int.reduceLE, reduceIte, Int.reduceAdd, Int.reduceSub, Int.reduceMul, Int.reduceNeg, Int.reduceToNat, Bool.false_eq_true, eq_self, if_pos, if_neg]
    show addc 1 (run (lv + 1) 367 13 [aA 11 0, aI x1, aI x2, aA 25 0, none] [none] h1) = _
    simp (disch := omega) only [x_6_3, x_1, x_6_0, x_4_1, x_4_2, x_81_3_d0, x_81_3_d1, x_81_3_d2, x_81_3_d3, x_81_3_d4, x_23, x_43, x_60, x_9_4_I, x_9n_4_I, x_9_4_A, x_9n_4_A, x_9_4_U, x_9n_4_U, x_82, cb_ri, cb_rl, cb_rv, cb_th, cb_ite, ps_s, ps_n, u_367_0, u_367_13, u_367_17, Int.reduceEq, Int.reduceLT, Int.reduceLE, reduceIte, Int.reduceAdd, Int.reduceSub, Int.reduceMul, Int.reduceNeg, Int.reduceToNat, Bool.false_eq_true, eq_self, if_pos, if_neg]
    rfl
