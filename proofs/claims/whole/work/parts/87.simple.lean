/-! QUESTIONS OF THE STATE ALONE. -/
theorem checkHand_c (lv H : Nat) (x : Int) (h : Hp) (h9 : h 139 0 0 = (H : Int)) : cl (lv + 1) 148 [aA 11 0, aI x] h = if 0 ≤ x ∧ x < H then rv h else th 2 h := by
  rw [in_148]
  by_cases c : 0 ≤ x ∧ x < H
  · simp (disch := omega) only [x_4_1, x_70, x_6_0, x_35_0, x_33, x_64, x_61, x_84, x_83, u_148_0, u_148_15, u_148_26, h9, Int.reduceEq, Int.reduceLT, Int.reduceLE, reduceIte, Int.reduceAdd, Int.reduceSub, Int.reduceMul, Int.reduceNeg, Int.reduceToNat, Bool.false_eq_true, eq_self, if_pos, if_neg]
  · by_cases c2 : x < 0
    · simp (disch := omega) only [x_4_1, x_70, x_6_0, x_35_0, x_33, x_64, x_61, x_84, x_83, u_148_0, u_148_15, u_148_26, h9, Int.reduceEq, Int.reduceLT, Int.reduceLE, reduceIte, Int.reduceAdd, Int.reduceSub, Int.reduceMul, Int.reduceNeg, Int.reduceToNat, Bool.false_eq_true, eq_self, if_pos, if_neg]
    · simp (disch := omega) only [x_4_1, x_70, x_6_0, x_35_0, x_33, x_64, x_61, x_84, x_83, u_148_0, u_148_15, u_148_26, h9, Int.reduceEq, Int.reduceLT, Int.reduceLE, reduceIte, Int.reduceAdd, Int.reduceSub, Int.reduceMul, Int.reduceNeg, Int.reduceToNat, Bool.false_eq_true, eq_self, if_pos, if_neg]
theorem checkNote_c (lv N : Nat) (x : Int) (h : Hp) (h9 : h 140 0 0 = (N : Int)) : cl (lv + 1) 149 [aA 11 0, aI x] h = if 0 ≤ x ∧ x < N then rv h else th 2 h := by
  rw [in_149]
  by_cases c : 0 ≤ x ∧ x < N
  · simp (disch := omega) only [x_4_1, x_70, x_6_0, x_35_0, x_33, x_64, x_61, x_84, x_83, u_149_0, u_149_15, u_149_26, h9, Int.reduceEq, Int.reduceLT, Int.reduceLE, reduceIte, Int.reduceAdd, Int.reduceSub, Int.reduceMul, Int.reduceNeg, Int.reduceToNat, Bool.false_eq_true, eq_self, if_pos, if_neg]
  · by_cases c2 : x < 0
    · simp (disch := omega) only [x_4_1, x_70, x_6_0, x_35_0, x_33, x_64, x_61, x_84, x_83, u_149_0, u_149_15, u_149_26, h9, Int.reduceEq, Int.reduceLT, Int.reduceLE, reduceIte, Int.reduceAdd, Int.reduceSub, Int.reduceMul, Int.reduceNeg, Int.reduceToNat, Bool.false_eq_true, eq_self, if_pos, if_neg]
    · simp (disch := omega) only [x_4_1, x_70, x_6_0, x_35_0, x_33, x_64, x_61, x_84, x_83, u_149_0, u_149_15, u_149_26, h9, Int.reduceEq, Int.reduceLT, Int.reduceLE, reduceIte, Int.reduceAdd, Int.reduceSub, Int.reduceMul, Int.reduceNeg, Int.reduceToNat, Bool.false_eq_true, eq_self, if_pos, if_neg]
theorem checkBeat_c (lv : Nat) (x : Int) (h : Hp) : cl (lv + 1) 150 [aI x] h = if 0 ≤ x ∧ x < 12 then rv h else th 2 h := by
  rw [in_150]
  by_cases c : 0 ≤ x ∧ x < 12
  · simp (disch := omega) only [x_4_0, x_70, x_1, x_64, x_61, x_84, x_83, u_150_0, u_150_10, u_150_21, Int.reduceEq, Int.reduceLT, Int.reduceLE, reduceIte, Int.reduceAdd, Int.reduceSub, Int.reduceMul, Int.reduceNeg, Int.reduceToNat, Bool.false_eq_true, eq_self, if_pos, if_neg]
  · by_cases c2 : x < 0
    · simp (disch := omega) only [x_4_0, x_70, x_1, x_64, x_61, x_84, x_83, u_150_0, u_150_10, u_150_21, Int.reduceEq, Int.reduceLT, Int.reduceLE, reduceIte, Int.reduceAdd, Int.reduceSub, Int.reduceMul, Int.reduceNeg, Int.reduceToNat, Bool.false_eq_true, eq_self, if_pos, if_neg]
    · simp (disch := omega) only [x_4_0, x_70, x_1, x_64, x_61, x_84, x_83, u_150_0, u_150_10, u_150_21, Int.reduceEq, Int.reduceLT, Int.reduceLE, reduceIte, Int.reduceAdd, Int.reduceSub, Int.reduceMul, Int.reduceNeg, Int.reduceToNat, Bool.false_eq_true, eq_self, if_pos, if_neg]
theorem checkPlayer_c (lv : Nat) (x : Int) (h : Hp) : cl (lv + 1) 151 [aI x] h = if 0 ≤ x ∧ x < 3 then rv h else th 2 h := by
  rw [in_151]
  by_cases c : 0 ≤ x ∧ x < 3
  · simp (disch := omega) only [x_4_0, x_70, x_1, x_64, x_61, x_84, x_83, u_151_0, u_151_9, u_151_20, Int.reduceEq, Int.reduceLT, Int.reduceLE, reduceIte, Int.reduceAdd, Int.reduceSub, Int.reduceMul, Int.reduceNeg, Int.reduceToNat, Bool.false_eq_true, eq_self, if_pos, if_neg]
  · by_cases c2 : x < 0
    · simp (disch := omega) only [x_4_0, x_70, x_1, x_64, x_61, x_84, x_83, u_151_0, u_151_9, u_151_20, Int.reduceEq, Int.reduceLT, Int.reduceLE, reduceIte, Int.reduceAdd, Int.reduceSub, Int.reduceMul, Int.reduceNeg, Int.reduceToNat, Bool.false_eq_true, eq_self, if_pos, if_neg]
    · simp (disch := omega) only [x_4_0, x_70, x_1, x_64, x_61, x_84, x_83, u_151_0, u_151_9, u_151_20, Int.reduceEq, Int.reduceLT, Int.reduceLE, reduceIte, Int.reduceAdd, Int.reduceSub, Int.reduceMul, Int.reduceNeg, Int.reduceToNat, Bool.false_eq_true, eq_self, if_pos, if_neg]
theorem checkTurns_c (lv : Nat) (x y : Int) (h : Hp) : cl (lv + 1) 152 [aI x, aI y] h = if 0 ≤ x ∧ x ≤ y then rv h else th 0 h := by
  rw [in_152]
  by_cases c : 0 ≤ x ∧ x ≤ y
  · simp (disch := omega) only [x_4_0, x_70, x_4_1, x_67, x_61, x_84, x_83, u_152_0, u_152_9, u_152_20, Int.reduceEq, Int.reduceLT, Int.reduceLE, reduceIte, Int.reduceAdd, Int.reduceSub, Int.reduceMul, Int.reduceNeg, Int.reduceToNat, Bool.false_eq_true, eq_self, if_pos, if_neg]
  · by_cases c2 : x < 0
    · simp (disch := omega) only [x_4_0, x_70, x_4_1, x_67, x_61, x_84, x_83, u_152_0, u_152_9, u_152_20, Int.reduceEq, Int.reduceLT, Int.reduceLE, reduceIte, Int.reduceAdd, Int.reduceSub, Int.reduceMul, Int.reduceNeg, Int.reduceToNat, Bool.false_eq_true, eq_self, if_pos, if_neg]
    · simp (disch := omega) only [x_4_0, x_70, x_4_1, x_67, x_61, x_84, x_83, u_152_0, u_152_9, u_152_20, Int.reduceEq, Int.reduceLT, Int.reduceLE, reduceIte, Int.reduceAdd, Int.reduceSub, Int.reduceMul, Int.reduceNeg, Int.reduceToNat, Bool.false_eq_true, eq_self, if_pos, if_neg]
def t0 (e : Nat) : Nat := if e = 0 then 1 else 0
def t2 (e : Nat) : Nat := if e = 2 then 1 else 0
def t4 (e : Nat) : Nat := if e = 4 then 1 else 0
def t03 (e : Nat) : Nat := if e = 0 then 1 else if e = 3 then 2 else 0
def t20 (e : Nat) : Nat := if e = 2 then 1 else if e = 0 then 2 else 0
def t21 (e : Nat) : Nat := if e = 2 then 1 else if e = 1 then 2 else 0
def t24 (e : Nat) : Nat := if e = 2 then 1 else if e = 4 then 2 else 0
def t201 (e : Nat) : Nat := if e = 2 then 1 else if e = 0 then 2 else if e = 1 then 3 else 0
def t204 (e : Nat) : Nat := if e = 2 then 1 else if e = 0 then 2 else if e = 4 then 3 else 0
theorem rsc_186 (g : Hp) (v : Int) : Sm rsc g (hset g 186 0 0 v) := fun tt k j hf => hs_o (by unfold rsc at hf; omega)
theorem h186_m (g : Hp) (v : Int) : hset g 186 0 0 v 187 0 = g 187 0 := funext (fun _ => hs_t (by omega))
theorem Sm_187 {S : Nat → Nat → Prop} {h g : Hp} (e : Sm S h g) (hs : ¬ S 187 0) : g 187 0 = h 187 0 := funext (fun j => e _ _ _ hs)
theorem scr_187 : ¬ scr 187 0 := by unfold scr csc rsc stTag; omega
/-! the fullest beat, how many hands there must be, sevens -/
def fuF (v : Nat → Nat) : Nat → Int × Nat
  | 0 => (-1, 0)
  | b + 1 => if (fuF v b).2 < v b then ((b : Int), v b) else fuF v b
theorem fuF_b (v : Nat → Nat) (K : Nat) (hv : ∀ b, v b ≤ K) : ∀ b, (fuF v b).2 ≤ K := by
  intro b
  induction b with
  | zero => exact Nat.zero_le _
  | succ b ih => show (if (fuF v b).2 < v b then ((b : Int), v b) else fuF v b).2 ≤ K; split; exact hv b; exact ih
theorem full_c (lv N : Nat) (M : Nat → Int) (h : Hp) (R : RN h 0 M N) : cl (lv + 3) 106 [aA 11 0] h = ri (fuF (fun b => cnt (atB M (b : Int)) N) 12).1 h := by
  have hN := R.2.1
  rw [in_106]
  simp (disch := omega) only [x_1, x_7_1_I, x_7_1_A, x_7_1_U, x_7_2_I, x_7_2_A, x_7_2_U, x_7_3_I, x_7_3_A, x_7_3_U, x_61, x_4_3, x_65, x_6_0, x_35_0, x_79_2_7_d0, x_79_2_7_d1, x_79_2_7_d2, x_79_2_7_d3, x_79_2_7_d4, x_80_1_d0, x_80_1_d1, x_80_1_d2, x_80_1_d3, x_80_1_d4, x_7_4_I, x_7_4_A, x_7_4_U, x_4_4, x_4_2, x_67, x_10_3_I, x_10_3_A, x_10_3_U, x_60, x_4_1, x_82, cb_ri, cb_rl, cb_rv, cb_th, cb_ite, ps_s, ps_n, u_106_0, u_106_36, u_106_42]
  refine loop_g (F := fun b (g : AV) => run (lv + 2) 106 6 [aA 11 0, aI (fuF (fun b => cnt (atB M (b : Int)) N) b).1, aI ((fuF (fun b => cnt (atB M (b : Int)) N) b).2 : Int), aI (b : Int), g] [] h) (N := 12) ?_ ?_ none
  · intro b g hb
    refine ⟨aI ((cnt (atB M (b : Int)) N : Nat) : Int), ?_⟩
    have na := notesAt_c lv 0 N M (b : Int) h R
    have bc := bitCount_c (lv + 1) (atB M (b : Int)) N h hN
    show run _ _ _ _ _ _ = run _ _ _ _ _ _
    simp only [fuF]
    rw [hd_106_6]
    by_cases c : (fuF (fun b => cnt (atB M (b : Int)) N) b).2 < cnt (atB M (b : Int)) N
    · rw [if_pos c]
      simp (disch := omega) only [x_1, x_7_1_I, x_7_1_A, x_7_1_U, x_7_2_I, x_7_2_A, x_7_2_U, x_7_3_I, x_7_3_A, x_7_3_U, x_61, x_4_3, x_65, x_6_0, x_35_0, x_79_2_7_d0, x_79_2_7_d1, x_79_2_7_d2, x_79_2_7_d3, x_79_2_7_d4, x_80_1_d0, x_80_1_d1, x_80_1_d2, x_80_1_d3, x_80_1_d4, x_7_4_I, x_7_4_A, x_7_4_U, x_4_4, x_4_2, x_67, x_10_3_I, x_10_3_A, x_10_3_U, x_60, x_4_1, x_82, cb_ri, cb_rl, cb_rv, cb_th, cb_ite, ps_s, ps_n, u_106_0, u_106_36, u_106_42, na, bc, Int.reduceEq, Int.reduceLT, Int.reduceLE, reduceIte, Int.reduceAdd, Int.reduceSub, Int.reduceMul, Int.reduceNeg, Int.reduceToNat, Bool.false_eq_true, eq_self, if_pos, if_neg, ci, w32_id]
    · rw [if_neg c]
      simp (disch := omega) only [x_1, x_7_1_I, x_7_1_A, x_7_1_U, x_7_2_I, x_7_2_A, x_7_2_U, x_7_3_I, x_7_3_A, x_7_3_U, x_61, x_4_3, x_65, x_6_0, x_35_0, x_79_2_7_d0, x_79_2_7_d1, x_79_2_7_d2, x_79_2_7_d3, x_79_2_7_d4, x_80_1_d0, x_80_1_d1, x_80_1_d2, x_80_1_d3, x_80_1_d4, x_7_4_I, x_7_4_A, x_7_4_U, x_4_4, x_4_2, x_67, x_10_3_I, x_10_3_A, x_10_3_U, x_60, x_4_1, x_82, cb_ri, cb_rl, cb_rv, cb_th, cb_ite, ps_s, ps_n, u_106_0, u_106_36, u_106_42, na, bc, Int.reduceEq, Int.reduceLT, Int.reduceLE, reduceIte, Int.reduceAdd, Int.reduceSub, Int.reduceMul, Int.reduceNeg, Int.reduceToNat, Bool.false_eq_true, eq_self, if_pos, if_neg, ci, w32_id]
  · intro g
    show run _ _ _ _ _ _ = _
    rw [hd_106_6]
    simp (disch := omega) only [x_1, x_7_1_I, x_7_1_A, x_7_1_U, x_7_2_I, x_7_2_A, x_7_2_U, x_7_3_I, x_7_3_A, x_7_3_U, x_61, x_4_3, x_65, x_6_0, x_35_0, x_79_2_7_d0, x_79_2_7_d1, x_79_2_7_d2, x_79_2_7_d3, x_79_2_7_d4, x_80_1_d0, x_80_1_d1, x_80_1_d2, x_80_1_d3, x_80_1_d4, x_7_4_I, x_7_4_A, x_7_4_U, x_4_4, x_4_2, x_67, x_10_3_I, x_10_3_A, x_10_3_U, x_60, x_4_1, x_82, cb_ri, cb_rl, cb_rv, cb_th, cb_ite, ps_s, ps_n, u_106_0, u_106_36, u_106_42, Int.reduceEq, Int.reduceLT, Int.reduceLE, reduceIte, Int.reduceAdd, Int.reduceSub, Int.reduceMul, Int.reduceNeg, Int.reduceToNat, Bool.false_eq_true, eq_self, if_pos, if_neg]
theorem full_m (lv N : Nat) (h : Hp) (h4 : h 187 0 4 = (N : Int)) (hN : N ≤ 14) : cl (lv + 4) 254 [aA 12 0] h = ri (fuF (fun b => cnt (atB (h 187 0) (b : Int)) N) 12).1 (hset h 186 0 0 0) := by
  rw [in_254]
  simp (disch := omega) only [x_6_0, x_1, x_36, x_7_1_I, x_7_1_A, x_7_1_U, x_7_2_I, x_7_2_A, x_7_2_U, x_7_3_I, x_7_3_A, x_7_3_U, x_61, x_4_3, x_65, x_79_2_12_d0, x_79_2_12_d1, x_79_2_12_d2, x_79_2_12_d3, x_79_2_12_d4, x_80_1_d0, x_80_1_d1, x_80_1_d2, x_80_1_d3, x_80_1_d4, x_7_4_I, x_7_4_A, x_7_4_U, x_4_4, x_4_2, x_66, x_60, x_10_3_I, x_10_3_A, x_10_3_U, x_4_1, x_82, cb_ri, cb_rl, cb_rv, cb_th, cb_ite, ps_s, ps_n, u_254_0, u_254_36, u_254_41, u_254_47]
  refine loop_g (F := fun b (g : AV) => run (lv + 3) 254 11 [aA 12 0, aI (fuF (fun b => cnt (atB (h 187 0) (b : Int)) N) b).1, aI ((fuF (fun b => cnt (atB (h 187 0) (b : Int)) N) b).2 : Int), aI (b : Int), g] [] (hset h 186 0 0 0)) (N := 12) ?_ ?_ none
  · intro b g hb
    refine ⟨aI ((cnt (atB (h 187 0) (b : Int)) N : Nat) : Int), ?_⟩
    have na := notesOf_c lv N (b : Int) (hset h 186 0 0 0) (by rw [h186_m]; exact h4) hN
    rw [h186_m] at na
    have bc := bits_c (lv + 2) (atB (h 187 0) (b : Int)) N (hset h 186 0 0 0) (by omega)
    show run _ _ _ _ _ _ = run _ _ _ _ _ _
    simp only [fuF]
    rw [hd_254_11]
    by_cases c : (fuF (fun b => cnt (atB (h 187 0) (b : Int)) N) b).2 < cnt (atB (h 187 0) (b : Int)) N
    · rw [if_pos c]
      simp (disch := omega) only [x_6_0, x_1, x_36, x_7_1_I, x_7_1_A, x_7_1_U, x_7_2_I, x_7_2_A, x_7_2_U, x_7_3_I, x_7_3_A, x_7_3_U, x_61, x_4_3, x_65, x_79_2_12_d0, x_79_2_12_d1, x_79_2_12_d2, x_79_2_12_d3, x_79_2_12_d4, x_80_1_d0, x_80_1_d1, x_80_1_d2, x_80_1_d3, x_80_1_d4, x_7_4_I, x_7_4_A, x_7_4_U, x_4_4, x_4_2, x_66, x_60, x_10_3_I, x_10_3_A, x_10_3_U, x_4_1, x_82, cb_ri, cb_rl, cb_rv, cb_th, cb_ite, ps_s, ps_n, u_254_0, u_254_36, u_254_41, u_254_47, na, bc, Int.reduceEq, Int.reduceLT, Int.reduceLE, reduceIte, Int.reduceAdd, Int.reduceSub, Int.reduceMul, Int.reduceNeg, Int.reduceToNat, Bool.false_eq_true, eq_self, if_pos, if_neg, ci, w32_id]
    · rw [if_neg c]
      simp (disch := omega) only [x_6_0, x_1, x_36, x_7_1_I, x_7_1_A, x_7_1_U, x_7_2_I, x_7_2_A, x_7_2_U, x_7_3_I, x_7_3_A, x_7_3_U, x_61, x_4_3, x_65, x_79_2_12_d0, x_79_2_12_d1, x_79_2_12_d2, x_79_2_12_d3, x_79_2_12_d4, x_80_1_d0, x_80_1_d1, x_80_1_d2, x_80_1_d3, x_80_1_d4, x_7_4_I, x_7_4_A, x_7_4_U, x_4_4, x_4_2, x_66, x_60, x_10_3_I, x_10_3_A, x_10_3_U, x_4_1, x_82, cb_ri, cb_rl, cb_rv, cb_th, cb_ite, ps_s, ps_n, u_254_0, u_254_36, u_254_41, u_254_47, na, bc, Int.reduceEq, Int.reduceLT, Int.reduceLE, reduceIte, Int.reduceAdd, Int.reduceSub, Int.reduceMul, Int.reduceNeg, Int.reduceToNat, Bool.false_eq_true, eq_self, if_pos, if_neg, ci, w32_id]
  · intro g
    show run _ _ _ _ _ _ = _
    rw [hd_254_11]
    simp (disch := omega) only [x_6_0, x_1, x_36, x_7_1_I, x_7_1_A, x_7_1_U, x_7_2_I, x_7_2_A, x_7_2_U, x_7_3_I, x_7_3_A, x_7_3_U, x_61, x_4_3, x_65, x_79_2_12_d0, x_79_2_12_d1, x_79_2_12_d2, x_79_2_12_d3, x_79_2_12_d4, x_80_1_d0, x_80_1_d1, x_80_1_d2, x_80_1_d3, x_80_1_d4, x_7_4_I, x_7_4_A, x_7_4_U, x_4_4, x_4_2, x_66, x_60, x_10_3_I, x_10_3_A, x_10_3_U, x_4_1, x_82, cb_ri, cb_rl, cb_rv, cb_th, cb_ite, ps_s, ps_n, u_254_0, u_254_36, u_254_41, u_254_47, Int.reduceEq, Int.reduceLT, Int.reduceLE, reduceIte, Int.reduceAdd, Int.reduceSub, Int.reduceMul, Int.reduceNeg, Int.reduceToNat, Bool.false_eq_true, eq_self, if_pos, if_neg]
theorem ag_full (lc lr H N : Nat) (h : Hp) (I : INV h H N) : AGp (fun h => cl (lc + 80) 106 [aA 11 0] h) (fun h => cl (lr + 80) 254 [aA 12 0] h) h :=
  AGp_q I ⟨h, full_c (lc + 77) N (h 187 0) h I.1.1.2.1, Sm_r _ _⟩ (fun g s J => ⟨_, by rw [← Sm_187 s scr_187]; exact full_m (lr + 76) N g J.1.2.1.2.1.1 J.1.2.1.2.1.2.1, rsc_186 g 0⟩)
theorem needed_c (lv N : Nat) (M : Nat → Int) (h : Hp) (R : RN h 0 M N) : cl (lv + 3) 110 [aA 11 0] h = ri (itr (fun b (x : Int) => max x ((cnt (atB M (b : Int)) N : Nat) : Int)) 0 12) h := by
  have hN := R.2.1
  rw [in_110]
  simp (disch := omega) only [x_1, x_7_1_I, x_7_1_A, x_7_1_U, x_7_2_I, x_7_2_A, x_7_2_U, x_61, x_4_2, x_65, x_4_1, x_6_0, x_35_0, x_79_2_7_d0, x_79_2_7_d1, x_79_2_7_d2, x_79_2_7_d3, x_79_2_7_d4, x_80_1_d0, x_80_1_d1, x_80_1_d2, x_80_1_d3, x_80_1_d4, x_80_2_d0, x_80_2_d1, x_80_2_d2, x_80_2_d3, x_80_2_d4, x_10_2_I, x_10_2_A, x_10_2_U, x_60, x_82, cb_ri, cb_rl, cb_rv, cb_th, cb_ite, ps_s, ps_n, u_110_0, u_110_32]
  refine loop_up (F := fun b => run (lv + 2) 110 4 [aA 11 0, aI (itr (fun b (x : Int) => max x ((cnt (atB M (b : Int)) N : Nat) : Int)) 0 b), aI (b : Int)] [] h) (N := 12) ?_ ?_ 0 (by omega)
  · intro b hb
    have na := notesAt_c lv 0 N M (b : Int) h R
    have bc := bitCount_c (lv + 1) (atB M (b : Int)) N h hN
    show run _ _ _ _ _ _ = run _ _ _ _ _ _
    rw [hd_110_4]
    simp (disch := omega) only [x_1, x_7_1_I, x_7_1_A, x_7_1_U, x_7_2_I, x_7_2_A, x_7_2_U, x_61, x_4_2, x_65, x_4_1, x_6_0, x_35_0, x_79_2_7_d0, x_79_2_7_d1, x_79_2_7_d2, x_79_2_7_d3, x_79_2_7_d4, x_80_1_d0, x_80_1_d1, x_80_1_d2, x_80_1_d3, x_80_1_d4, x_80_2_d0, x_80_2_d1, x_80_2_d2, x_80_2_d3, x_80_2_d4, x_10_2_I, x_10_2_A, x_10_2_U, x_60, x_82, cb_ri, cb_rl, cb_rv, cb_th, cb_ite, ps_s, ps_n, u_110_0, u_110_32, na, bc, max_c, Int.reduceEq, Int.reduceLT, Int.reduceLE, reduceIte, Int.reduceAdd, Int.reduceSub, Int.reduceMul, Int.reduceNeg, Int.reduceToNat, Bool.false_eq_true, eq_self, if_pos, if_neg, ci, w32_id]
    rfl
  · show run _ _ _ _ _ _ = _
    rw [hd_110_4]
    simp (disch := omega) only [x_1, x_7_1_I, x_7_1_A, x_7_1_U, x_7_2_I, x_7_2_A, x_7_2_U, x_61, x_4_2, x_65, x_4_1, x_6_0, x_35_0, x_79_2_7_d0, x_79_2_7_d1, x_79_2_7_d2, x_79_2_7_d3, x_79_2_7_d4, x_80_1_d0, x_80_1_d1, x_80_1_d2, x_80_1_d3, x_80_1_d4, x_80_2_d0, x_80_2_d1, x_80_2_d2, x_80_2_d3, x_80_2_d4, x_10_2_I, x_10_2_A, x_10_2_U, x_60, x_82, cb_ri, cb_rl, cb_rv, cb_th, cb_ite, ps_s, ps_n, u_110_0, u_110_32, Int.reduceEq, Int.reduceLT, Int.reduceLE, reduceIte, Int.reduceAdd, Int.reduceSub, Int.reduceMul, Int.reduceNeg, Int.reduceToNat, Bool.false_eq_true, eq_self, if_pos, if_neg]
theorem needed_m (lv N : Nat) (h : Hp) (h4 : h 187 0 4 = (N : Int)) (hN : N ≤ 14) : cl (lv + 4) 259 [aA 12 0] h = ri (itr (fun b (x : Int) => max x ((cnt (atB (h 187 0) (b : Int)) N : Nat) : Int)) 0 12) (hset h 186 0 0 0) := by
  rw [in_259]
  simp (disch := omega) only [x_6_0, x_1, x_36, x_7_1_I, x_7_1_A, x_7_1_U, x_7_2_I, x_7_2_A, x_7_2_U, x_61, x_4_2, x_65, x_4_1, x_79_2_12_d0, x_79_2_12_d1, x_79_2_12_d2, x_79_2_12_d3, x_79_2_12_d4, x_80_1_d0, x_80_1_d1, x_80_1_d2, x_80_1_d3, x_80_1_d4, x_80_2_d0, x_80_2_d1, x_80_2_d2, x_80_2_d3, x_80_2_d4, x_10_2_I, x_10_2_A, x_10_2_U, x_60, x_82, cb_ri, cb_rl, cb_rv, cb_th, cb_ite, ps_s, ps_n, u_259_0, u_259_34]
  refine loop_up (F := fun b => run (lv + 3) 259 9 [aA 12 0, aI (itr (fun b (x : Int) => max x ((cnt (atB (h 187 0) (b : Int)) N : Nat) : Int)) 0 b), aI (b : Int)] [] (hset h 186 0 0 0)) (N := 12) ?_ ?_ 0 (by omega)
  · intro b hb
    have na := notesOf_c lv N (b : Int) (hset h 186 0 0 0) (by rw [h186_m]; exact h4) hN
    rw [h186_m] at na
    have bc := bits_c (lv + 2) (atB (h 187 0) (b : Int)) N (hset h 186 0 0 0) (by omega)
    show run _ _ _ _ _ _ = run _ _ _ _ _ _
    rw [hd_259_9]
    simp (disch := omega) only [x_6_0, x_1, x_36, x_7_1_I, x_7_1_A, x_7_1_U, x_7_2_I, x_7_2_A, x_7_2_U, x_61, x_4_2, x_65, x_4_1, x_79_2_12_d0, x_79_2_12_d1, x_79_2_12_d2, x_79_2_12_d3, x_79_2_12_d4, x_80_1_d0, x_80_1_d1, x_80_1_d2, x_80_1_d3, x_80_1_d4, x_80_2_d0, x_80_2_d1, x_80_2_d2, x_80_2_d3, x_80_2_d4, x_10_2_I, x_10_2_A, x_10_2_U, x_60, x_82, cb_ri, cb_rl, cb_rv, cb_th, cb_ite, ps_s, ps_n, u_259_0, u_259_34, na, bc, greater_c, Int.reduceEq, Int.reduceLT, Int.reduceLE, reduceIte, Int.reduceAdd, Int.reduceSub, Int.reduceMul, Int.reduceNeg, Int.reduceToNat, Bool.false_eq_true, eq_self, if_pos, if_neg, ci, w32_id]
    rfl
  · show run _ _ _ _ _ _ = _
    rw [hd_259_9]
    simp (disch := omega) only [x_6_0, x_1, x_36, x_7_1_I, x_7_1_A, x_7_1_U, x_7_2_I, x_7_2_A, x_7_2_U, x_61, x_4_2, x_65, x_4_1, x_79_2_12_d0, x_79_2_12_d1, x_79_2_12_d2, x_79_2_12_d3, x_79_2_12_d4, x_80_1_d0, x_80_1_d1, x_80_1_d2, x_80_1_d3, x_80_1_d4, x_80_2_d0, x_80_2_d1, x_80_2_d2, x_80_2_d3, x_80_2_d4, x_10_2_I, x_10_2_A, x_10_2_U, x_60, x_82, cb_ri, cb_rl, cb_rv, cb_th, cb_ite, ps_s, ps_n, u_259_0, u_259_34, Int.reduceEq, Int.reduceLT, Int.reduceLE, reduceIte, Int.reduceAdd, Int.reduceSub, Int.reduceMul, Int.reduceNeg, Int.reduceToNat, Bool.false_eq_true, eq_self, if_pos, if_neg]
theorem ag_needed (lc lr H N : Nat) (h : Hp) (I : INV h H N) : AGp (fun h => cl (lc + 80) 110 [aA 11 0] h) (fun h => cl (lr + 80) 259 [aA 12 0] h) h :=
  AGp_q I ⟨h, needed_c (lc + 77) N (h 187 0) h I.1.1.2.1, Sm_r _ _⟩ (fun g s J => ⟨_, by rw [← Sm_187 s scr_187]; exact needed_m (lr + 76) N g J.1.2.1.2.1.1 J.1.2.1.2.1.2.1, rsc_186 g 0⟩)
theorem bs_z {P : Nat → Bool} {n : Nat} (hn : n ≤ 30) : ior ((bsN P n : Nat) : Int) 0 = ((bsN P n : Nat) : Int) := by
  rw [show (0 : Int) = ((0 : Nat) : Int) from rfl, ior_n (Nat.lt_of_lt_of_le (bsN_mono P hn) (by decide)) (by omega), Nat.or_zero]
theorem sevens_c (lv N : Nat) (M : Nat → Int) (h : Hp) (R : RN h 0 M N) : cl (lv + 3) 120 [aA 11 0] h = ri ((bsN (fun b => decide (7 ≤ cnt (atB M (b : Int)) N)) 12 : Nat) : Int) h := by
  have hN := R.2.1
  rw [in_120]
  simp (disch := omega) only [x_1, x_7_1_I, x_7_1_A, x_7_1_U, x_7_2_I, x_7_2_A, x_7_2_U, x_61, x_4_2, x_65, x_6_0, x_35_0, x_79_2_7_d0, x_79_2_7_d1, x_79_2_7_d2, x_79_2_7_d3, x_79_2_7_d4, x_80_1_d0, x_80_1_d1, x_80_1_d2, x_80_1_d3, x_80_1_d4, x_64, x_4_1, x_20, x_18, x_10_2_I, x_10_2_A, x_10_2_U, x_60, x_82, cb_ri, cb_rl, cb_rv, cb_th, cb_ite, ps_s, ps_n, u_120_0, u_120_32, u_120_38]
  refine loop_up (F := fun b => run (lv + 2) 120 4 [aA 11 0, aI ((bsN (fun b => decide (7 ≤ cnt (atB M (b : Int)) N)) b : Nat) : Int), aI (b : Int)] [] h) (N := 12) ?_ ?_ 0 (by omega)
  · intro b hb
    have na := notesAt_c lv 0 N M (b : Int) h R
    have bc := bitCount_c (lv + 1) (atB M (b : Int)) N h hN
    show run _ _ _ _ _ _ = run _ _ _ _ _ _
    rw [hd_120_4]
    by_cases c : 7 ≤ cnt (atB M (b : Int)) N
    · rw [bs_s _ (decide_eq_true c)]
      simp (disch := omega) only [x_1, x_7_1_I, x_7_1_A, x_7_1_U, x_7_2_I, x_7_2_A, x_7_2_U, x_61, x_4_2, x_65, x_6_0, x_35_0, x_79_2_7_d0, x_79_2_7_d1, x_79_2_7_d2, x_79_2_7_d3, x_79_2_7_d4, x_80_1_d0, x_80_1_d1, x_80_1_d2, x_80_1_d3, x_80_1_d4, x_64, x_4_1, x_20, x_18, x_10_2_I, x_10_2_A, x_10_2_U, x_60, x_82, cb_ri, cb_rl, cb_rv, cb_th, cb_ite, ps_s, ps_n, u_120_0, u_120_32, u_120_38, na, bc, bs_or, Int.reduceEq, Int.reduceLT, Int.reduceLE, reduceIte, Int.reduceAdd, Int.reduceSub, Int.reduceMul, Int.reduceNeg, Int.reduceToNat, Bool.false_eq_true, eq_self, if_pos, if_neg, ci, w32_id]
    · rw [bs_f _ (decide_eq_false c)]
      simp (disch := omega) only [x_1, x_7_1_I, x_7_1_A, x_7_1_U, x_7_2_I, x_7_2_A, x_7_2_U, x_61, x_4_2, x_65, x_6_0, x_35_0, x_79_2_7_d0, x_79_2_7_d1, x_79_2_7_d2, x_79_2_7_d3, x_79_2_7_d4, x_80_1_d0, x_80_1_d1, x_80_1_d2, x_80_1_d3, x_80_1_d4, x_64, x_4_1, x_20, x_18, x_10_2_I, x_10_2_A, x_10_2_U, x_60, x_82, cb_ri, cb_rl, cb_rv, cb_th, cb_ite, ps_s, ps_n, u_120_0, u_120_32, u_120_38, na, bc, Int.reduceEq, Int.reduceLT, Int.reduceLE, reduceIte, Int.reduceAdd, Int.reduceSub, Int.reduceMul, Int.reduceNeg, Int.reduceToNat, Bool.false_eq_true, eq_self, if_pos, if_neg, ci, w32_id]
  · show run _ _ _ _ _ _ = _
    rw [hd_120_4]
    simp (disch := omega) only [x_1, x_7_1_I, x_7_1_A, x_7_1_U, x_7_2_I, x_7_2_A, x_7_2_U, x_61, x_4_2, x_65, x_6_0, x_35_0, x_79_2_7_d0, x_79_2_7_d1, x_79_2_7_d2, x_79_2_7_d3, x_79_2_7_d4, x_80_1_d0, x_80_1_d1, x_80_1_d2, x_80_1_d3, x_80_1_d4, x_64, x_4_1, x_20, x_18, x_10_2_I, x_10_2_A, x_10_2_U, x_60, x_82, cb_ri, cb_rl, cb_rv, cb_th, cb_ite, ps_s, ps_n, u_120_0, u_120_32, u_120_38, Int.reduceEq, Int.reduceLT, Int.reduceLE, reduceIte, Int.reduceAdd, Int.reduceSub, Int.reduceMul, Int.reduceNeg, Int.reduceToNat, Bool.false_eq_true, eq_self, if_pos, if_neg]
theorem sevens_m (lv N : Nat) (h : Hp) (h4 : h 187 0 4 = (N : Int)) (hN : N ≤ 14) : cl (lv + 4) 273 [aA 12 0] h = ri ((bsN (fun b => decide (7 ≤ cnt (atB (h 187 0) (b : Int)) N)) 12 : Nat) : Int) (hset h 186 0 0 0) := by
  rw [in_273]
  simp (disch := omega) only [x_6_0, x_1, x_36, x_7_1_I, x_7_1_A, x_7_1_U, x_7_2_I, x_7_2_A, x_7_2_U, x_61, x_4_2, x_65, x_4_1, x_79_2_12_d0, x_79_2_12_d1, x_79_2_12_d2, x_79_2_12_d3, x_79_2_12_d4, x_80_1_d0, x_80_1_d1, x_80_1_d2, x_80_1_d3, x_80_1_d4, x_67, x_20, x_60, x_18, x_10_2_I, x_10_2_A, x_10_2_U, x_82, cb_ri, cb_rl, cb_rv, cb_th, cb_ite, ps_s, ps_n, u_273_0, u_273_35, u_273_36, u_273_44]
  refine loop_up (F := fun b => run (lv + 3) 273 9 [aA 12 0, aI ((bsN (fun b => decide (7 ≤ cnt (atB (h 187 0) (b : Int)) N)) b : Nat) : Int), aI (b : Int)] [] (hset h 186 0 0 0)) (N := 12) ?_ ?_ 0 (by omega)
  · intro b hb
    have na := notesOf_c lv N (b : Int) (hset h 186 0 0 0) (by rw [h186_m]; exact h4) hN
    rw [h186_m] at na
    have bc := bits_c (lv + 2) (atB (h 187 0) (b : Int)) N (hset h 186 0 0 0) (by omega)
    show run _ _ _ _ _ _ = run _ _ _ _ _ _
    rw [hd_273_9]
    by_cases c : 7 ≤ cnt (atB (h 187 0) (b : Int)) N
    · rw [bs_s _ (decide_eq_true c)]
      simp (disch := omega) only [x_6_0, x_1, x_36, x_7_1_I, x_7_1_A, x_7_1_U, x_7_2_I, x_7_2_A, x_7_2_U, x_61, x_4_2, x_65, x_4_1, x_79_2_12_d0, x_79_2_12_d1, x_79_2_12_d2, x_79_2_12_d3, x_79_2_12_d4, x_80_1_d0, x_80_1_d1, x_80_1_d2, x_80_1_d3, x_80_1_d4, x_67, x_20, x_60, x_18, x_10_2_I, x_10_2_A, x_10_2_U, x_82, cb_ri, cb_rl, cb_rv, cb_th, cb_ite, ps_s, ps_n, u_273_0, u_273_35, u_273_36, u_273_44, na, bc, bs_or, Int.reduceEq, Int.reduceLT, Int.reduceLE, reduceIte, Int.reduceAdd, Int.reduceSub, Int.reduceMul, Int.reduceNeg, Int.reduceToNat, Bool.false_eq_true, eq_self, if_pos, if_neg, ci, w32_id]
    · rw [bs_f _ (decide_eq_false c)]
      simp (disch := omega) only [x_6_0, x_1, x_36, x_7_1_I, x_7_1_A, x_7_1_U, x_7_2_I, x_7_2_A, x_7_2_U, x_61, x_4_2, x_65, x_4_1, x_79_2_12_d0, x_79_2_12_d1, x_79_2_12_d2, x_79_2_12_d3, x_79_2_12_d4, x_80_1_d0, x_80_1_d1, x_80_1_d2, x_80_1_d3, x_80_1_d4, x_67, x_20, x_60, x_18, x_10_2_I, x_10_2_A, x_10_2_U, x_82, cb_ri, cb_rl, cb_rv, cb_th, cb_ite, ps_s, ps_n, u_273_0, u_273_35, u_273_36, u_273_44, na, bc, bs_z, Int.reduceEq, Int.reduceLT, Int.reduceLE, reduceIte, Int.reduceAdd, Int.reduceSub, Int.reduceMul, Int.reduceNeg, Int.reduceToNat, Bool.false_eq_true, eq_self, if_pos, if_neg, ci, w32_id]
  · show run _ _ _ _ _ _ = _
    rw [hd_273_9]
    simp (disch := omega) only [x_6_0, x_1, x_36, x_7_1_I, x_7_1_A, x_7_1_U, x_7_2_I, x_7_2_A, x_7_2_U, x_61, x_4_2, x_65, x_4_1, x_79_2_12_d0, x_79_2_12_d1, x_79_2_12_d2, x_79_2_12_d3, x_79_2_12_d4, x_80_1_d0, x_80_1_d1, x_80_1_d2, x_80_1_d3, x_80_1_d4, x_67, x_20, x_60, x_18, x_10_2_I, x_10_2_A, x_10_2_U, x_82, cb_ri, cb_rl, cb_rv, cb_th, cb_ite, ps_s, ps_n, u_273_0, u_273_35, u_273_36, u_273_44, Int.reduceEq, Int.reduceLT, Int.reduceLE, reduceIte, Int.reduceAdd, Int.reduceSub, Int.reduceMul, Int.reduceNeg, Int.reduceToNat, Bool.false_eq_true, eq_self, if_pos, if_neg]
theorem ag_sevens (lc lr H N : Nat) (h : Hp) (I : INV h H N) : AGp (fun h => cl (lc + 80) 120 [aA 11 0] h) (fun h => cl (lr + 80) 273 [aA 12 0] h) h :=
  AGp_q I ⟨h, sevens_c (lc + 77) N (h 187 0) h I.1.1.2.1, Sm_r _ _⟩ (fun g s J => ⟨_, by rw [← Sm_187 s scr_187]; exact sevens_m (lr + 76) N g J.1.2.1.2.1.1 J.1.2.1.2.1.2.1, rsc_186 g 0⟩)
/-! of -/
theorem ag_of (lc lr H N : Nat) (p : Int) (h : Hp) (I : INV h H N) : AGt t2 (fun h => cl (lc + 80) 101 [aA 11 0, aI p] h) (fun h => cl (lr + 80) 248 [aA 12 0, aI p] h) h := by
  by_cases c : 0 ≤ p ∧ p < 12
  · refine AGt_q I (v := ((bsN (atB (h 187 0) p) N : Nat) : Int)) ⟨h, ?_, Sm_r _ _⟩ (fun g s J => ⟨hset g 186 0 0 0, ?_, hs_eq _ _ _ _ _, rsc_186 g 0⟩)
    · show cl (lc + 80) _ _ _ = _
      have cb := checkBeat_c (lc + 78) p h
      rw [if_pos c] at cb
      have na := notesAt_c (lc + 77) 0 N (h 187 0) p h I.1.1.2.1
      rw [in_101]
      simp (disch := omega) only [x_4_1, x_80_1_d0, x_80_1_d1, x_80_1_d2, x_80_1_d3, x_80_1_d4, x_6_0, x_35_0, x_79_2_7_d0, x_79_2_7_d1, x_79_2_7_d2, x_79_2_7_d3, x_79_2_7_d4, x_82, cb_ri, cb_rl, cb_rv, cb_th, cb_ite, ps_s, ps_n, u_101_0, cb, na]
    · show cl (lr + 80) _ _ _ = _
      have ib := isBeat_c (lr + 77) p g
      rw [if_pos c] at ib
      have na := notesOf_c (lr + 76) N p (hset g 186 0 0 0) (by rw [h186_m]; exact J.1.2.1.2.1.1) J.1.2.1.2.1.2.1
      rw [h186_m, Sm_187 s scr_187] at na
      rw [in_248]
      simp (disch := omega) only [x_6_0, x_4_1, x_80_1_d0, x_80_1_d1, x_80_1_d2, x_80_1_d3, x_80_1_d4, x_69, x_1, x_60, x_61, x_36, x_33, x_73, x_79_2_12_d0, x_79_2_12_d1, x_79_2_12_d2, x_79_2_12_d3, x_79_2_12_d4, x_82, cb_ri, cb_rl, cb_rv, cb_th, cb_ite, ps_s, ps_n, u_248_0, u_248_12, u_248_13, u_248_27, u_248_32, ib, hs_eq, na, Int.reduceEq, Int.reduceLT, Int.reduceLE, reduceIte, Int.reduceAdd, Int.reduceSub, Int.reduceMul, Int.reduceNeg, Int.reduceToNat, Bool.false_eq_true, eq_self, if_pos, if_neg]
  · refine AGt_e I 2 (by decide) ⟨h, ?_, Sm_r _ _⟩ (fun g s J => ⟨0, hset g 186 0 0 1, ?_, hs_eq _ _ _ _ _, rsc_186 g 1⟩)
    · show cl (lc + 80) _ _ _ = _
      have cb := checkBeat_c (lc + 78) p h
      rw [if_neg c] at cb
      rw [in_101]
      simp (disch := omega) only [x_4_1, x_80_1_d0, x_80_1_d1, x_80_1_d2, x_80_1_d3, x_80_1_d4, x_6_0, x_35_0, x_79_2_7_d0, x_79_2_7_d1, x_79_2_7_d2, x_79_2_7_d3, x_79_2_7_d4, x_82, cb_ri, cb_rl, cb_rv, cb_th, cb_ite, ps_s, ps_n, u_101_0, cb]
    · show cl (lr + 80) _ _ _ = _
      have ib := isBeat_c (lr + 77) p g
      rw [if_neg c] at ib
      rw [in_248]
      simp (disch := omega) only [x_6_0, x_4_1, x_80_1_d0, x_80_1_d1, x_80_1_d2, x_80_1_d3, x_80_1_d4, x_69, x_1, x_60, x_61, x_36, x_33, x_73, x_79_2_12_d0, x_79_2_12_d1, x_79_2_12_d2, x_79_2_12_d3, x_79_2_12_d4, x_82, cb_ri, cb_rl, cb_rv, cb_th, cb_ite, ps_s, ps_n, u_248_0, u_248_12, u_248_13, u_248_27, u_248_32, ib, hs_eq, Int.reduceEq, Int.reduceLT, Int.reduceLE, reduceIte, Int.reduceAdd, Int.reduceSub, Int.reduceMul, Int.reduceNeg, Int.reduceToNat, Bool.false_eq_true, eq_self, if_pos, if_neg]
