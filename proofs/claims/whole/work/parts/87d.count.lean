/-! QUESTIONS OF HANDS AND NOTES; counts; the seed. -/
def crB (M : Nat → Int) (x y : Nat) : Bool := decide (M (14 + 6 * x) < M (14 + 6 * y)) && decide (M (14 + 6 * y + 1) < M (14 + 6 * x + 1))
def alkB (M : Nat → Int) (x y : Nat) : Bool := decide (x < y) && (decide (M (14 + 6 * x + 2) = M (14 + 6 * y + 2)) && decide (M (14 + 6 * x + 3) = M (14 + 6 * y + 3)))
theorem sumN_b {f : Nat → Nat} {K : Nat} (hf : ∀ i, f i ≤ K) : ∀ n, sumN f n ≤ K * n := by
  intro n
  induction n with
  | zero => exact Nat.le_refl _
  | succ n ih => show sumN f n + f n ≤ _; have := hf n; rw [Nat.mul_succ]; omega
theorem ag_cross (lc lr H N : Nat) (h : Hp) (I : INV h H N) : AGp (fun h => cl (lc + 80) 134 [aA 11 0] h) (fun h => cl (lr + 80) 297 [aA 12 0] h) h := by
  have hH := I.1.2.1.1.2.1
  have h39 := I.1.1.1.1
  have sb := sumN_b (f := fun x => cnt (crB (h 187 0) x) H) (K := 6) (fun i => Nat.le_trans (cnt_le _ _) hH)
  refine AGp_q I (v := ((sumN (fun x => cnt (crB (h 187 0) x) H) H : Nat) : Int)) ⟨h, ?_, Sm_r _ _⟩ (fun g s J => ⟨hset g 186 0 0 0, ?_, rsc_186 g 0⟩)
  · show cl (lc + 80) _ _ _ = _
    rw [in_134]
    simp (disch := omega) only [x_1, x_7_1_I, x_7_1_A, x_7_1_U, x_7_2_I, x_7_2_A, x_7_2_U, x_61, x_4_2, x_6_0, x_35_0, x_33, x_65, x_7_3_I, x_7_3_A, x_7_3_U, x_4_3, x_34, x_38_129, x_38_130, x_67, x_10_1_I, x_10_1_A, x_10_1_U, x_10_3_I, x_10_3_A, x_10_3_U, x_60, x_10_2_I, x_10_2_A, x_10_2_U, x_4_1, x_82, u_134_0, u_134_73, u_134_79, u_134_85]
    refine loop_g (F := fun x (v : AV) => run (lc + 79) 134 4 [aA 11 0, aI ((sumN (fun x => cnt (crB (h 187 0) x) H) x : Nat) : Int), aI (x : Int), v] [] h) (N := H) ?_ ?_ none
    · intro x v hx
      refine ⟨aI (H : Int), ?_⟩
      show run _ _ _ _ _ _ = run _ _ _ [aA 11 0, aI ((sumN (fun x => cnt (crB (h 187 0) x) H) x + cnt (crB (h 187 0) x) H : Nat) : Int), _, _] _ _
      have s1 := sb x
      rw [hd_134_4]
      simp (disch := omega) only [x_1, x_7_1_I, x_7_1_A, x_7_1_U, x_7_2_I, x_7_2_A, x_7_2_U, x_61, x_4_2, x_6_0, x_35_0, x_33, x_65, x_7_3_I, x_7_3_A, x_7_3_U, x_4_3, x_34, x_38_129, x_38_130, x_67, x_10_1_I, x_10_1_A, x_10_1_U, x_10_3_I, x_10_3_A, x_10_3_U, x_60, x_10_2_I, x_10_2_A, x_10_2_U, x_4_1, x_82, u_134_0, u_134_73, u_134_79, u_134_85, h39, Int.reduceEq, Int.reduceLT, Int.reduceLE, reduceIte, Int.reduceAdd, Int.reduceSub, Int.reduceMul, Int.reduceNeg, Int.reduceToNat, Bool.false_eq_true, eq_self, if_pos, if_neg]
      refine loop_up (F := fun y => run (lc + 79) 134 17 [aA 11 0, aI ((sumN (fun x => cnt (crB (h 187 0) x) H) x + cnt (crB (h 187 0) x) y : Nat) : Int), aI (x : Int), aI (y : Int)] [] h) (N := H) ?_ ?_ 0 (by omega)
      · intro y hy
        obtain ⟨a0, a1, -⟩ := I.1.1.1.2.2.2 x hx
        obtain ⟨b0, b1, -⟩ := I.1.1.1.2.2.2 y hy
        have c1 := cnt_le (crB (h 187 0) x) y
        show run _ _ _ _ _ _ = run _ _ _ [_, aI ((sumN (fun x => cnt (crB (h 187 0) x) H) x + (cnt (crB (h 187 0) x) y + if crB (h 187 0) x y = true then 1 else 0) : Nat) : Int), _, _] _ _
        generalize sumN (fun x => cnt (crB (h 187 0) x) H) x = sm at s1 ⊢
        rw [hd_134_17]
        by_cases d1 : h 187 0 (14 + 6 * x) < h 187 0 (14 + 6 * y)
        · by_cases d2 : h 187 0 (14 + 6 * y + 1) < h 187 0 (14 + 6 * x + 1)
          · have p : crB (h 187 0) x y = true := by simp [crB, d1, d2]
            rw [if_pos p, ← Nat.add_assoc]
            simp (disch := omega) only [x_1, x_7_1_I, x_7_1_A, x_7_1_U, x_7_2_I, x_7_2_A, x_7_2_U, x_61, x_4_2, x_6_0, x_35_0, x_33, x_65, x_7_3_I, x_7_3_A, x_7_3_U, x_4_3, x_34, x_38_129, x_38_130, x_67, x_10_1_I, x_10_1_A, x_10_1_U, x_10_3_I, x_10_3_A, x_10_3_U, x_60, x_10_2_I, x_10_2_A, x_10_2_U, x_4_1, x_82, u_134_0, u_134_73, u_134_79, u_134_85, h39, tn, a0, a1, b0, b1, Int.reduceEq, Int.reduceLT, Int.reduceLE, reduceIte, Int.reduceAdd, Int.reduceSub, Int.reduceMul, Int.reduceNeg, Int.reduceToNat, Bool.false_eq_true, eq_self, if_pos, if_neg, ci, w32_id]
          · have p : crB (h 187 0) x y = false := by simp [crB, d2]
            rw [if_neg (by rw [p]; exact Bool.false_ne_true)]
            simp (disch := omega) only [x_1, x_7_1_I, x_7_1_A, x_7_1_U, x_7_2_I, x_7_2_A, x_7_2_U, x_61, x_4_2, x_6_0, x_35_0, x_33, x_65, x_7_3_I, x_7_3_A, x_7_3_U, x_4_3, x_34, x_38_129, x_38_130, x_67, x_10_1_I, x_10_1_A, x_10_1_U, x_10_3_I, x_10_3_A, x_10_3_U, x_60, x_10_2_I, x_10_2_A, x_10_2_U, x_4_1, x_82, u_134_0, u_134_73, u_134_79, u_134_85, h39, tn, a0, a1, b0, b1, Nat.add_zero, Int.reduceEq, Int.reduceLT, Int.reduceLE, reduceIte, Int.reduceAdd, Int.reduceSub, Int.reduceMul, Int.reduceNeg, Int.reduceToNat, Bool.false_eq_true, eq_self, if_pos, if_neg, ci, w32_id]
        · have p : crB (h 187 0) x y = false := by simp [crB, d1]
          rw [if_neg (by rw [p]; exact Bool.false_ne_true)]
          simp (disch := omega) only [x_1, x_7_1_I, x_7_1_A, x_7_1_U, x_7_2_I, x_7_2_A, x_7_2_U, x_61, x_4_2, x_6_0, x_35_0, x_33, x_65, x_7_3_I, x_7_3_A, x_7_3_U, x_4_3, x_34, x_38_129, x_38_130, x_67, x_10_1_I, x_10_1_A, x_10_1_U, x_10_3_I, x_10_3_A, x_10_3_U, x_60, x_10_2_I, x_10_2_A, x_10_2_U, x_4_1, x_82, u_134_0, u_134_73, u_134_79, u_134_85, h39, tn, a0, b0, Nat.add_zero, Int.reduceEq, Int.reduceLT, Int.reduceLE, reduceIte, Int.reduceAdd, Int.reduceSub, Int.reduceMul, Int.reduceNeg, Int.reduceToNat, Bool.false_eq_true, eq_self, if_pos, if_neg, ci, w32_id]
      · show run _ _ _ _ _ _ = _
        rw [hd_134_17]
        simp (disch := omega) only [x_1, x_7_1_I, x_7_1_A, x_7_1_U, x_7_2_I, x_7_2_A, x_7_2_U, x_61, x_4_2, x_6_0, x_35_0, x_33, x_65, x_7_3_I, x_7_3_A, x_7_3_U, x_4_3, x_34, x_38_129, x_38_130, x_67, x_10_1_I, x_10_1_A, x_10_1_U, x_10_3_I, x_10_3_A, x_10_3_U, x_60, x_10_2_I, x_10_2_A, x_10_2_U, x_4_1, x_82, u_134_0, u_134_73, u_134_79, u_134_85, h39, Int.reduceEq, Int.reduceLT, Int.reduceLE, reduceIte, Int.reduceAdd, Int.reduceSub, Int.reduceMul, Int.reduceNeg, Int.reduceToNat, Bool.false_eq_true, eq_self, if_pos, if_neg, ci, w32_id]
    · intro v
      show run _ _ _ _ _ _ = _
      rw [hd_134_4]
      simp (disch := omega) only [x_1, x_7_1_I, x_7_1_A, x_7_1_U, x_7_2_I, x_7_2_A, x_7_2_U, x_61, x_4_2, x_6_0, x_35_0, x_33, x_65, x_7_3_I, x_7_3_A, x_7_3_U, x_4_3, x_34, x_38_129, x_38_130, x_67, x_10_1_I, x_10_1_A, x_10_1_U, x_10_3_I, x_10_3_A, x_10_3_U, x_60, x_10_2_I, x_10_2_A, x_10_2_U, x_4_1, x_82, u_134_0, u_134_73, u_134_79, u_134_85, h39, Int.reduceEq, Int.reduceLT, Int.reduceLE, reduceIte, Int.reduceAdd, Int.reduceSub, Int.reduceMul, Int.reduceNeg, Int.reduceToNat, Bool.false_eq_true, eq_self, if_pos, if_neg]
  · show cl (lr + 80) _ _ _ = _
    have g7 : hset g 186 0 0 0 187 0 = h 187 0 := by rw [h186_m, Sm_187 s scr_187]
    have m3 : hset g 186 0 0 0 187 0 3 = (H : Int) := by rw [g7]; exact I.1.2.1.1.1
    have it : ∀ x f : Nat, x < 7 → f < 6 → cl (lr + 79) 173 [aA 12 0, aI (x : Int), aI (f : Int)] (hset g 186 0 0 0) = ri (h 187 0 (14 + 6 * x + f)) (hset g 186 0 0 0) := fun x f hx hf => by have := its_c (lr + 78) x f (hset g 186 0 0 0) hx hf; rw [g7] at this; exact this
    rw [in_297]
    simp (disch := omega) only [x_6_0, x_1, x_36, x_7_1_I, x_7_1_A, x_7_1_U, x_7_2_I, x_7_2_A, x_7_2_U, x_61, x_4_2, x_34, x_38_187, x_65, x_7_3_I, x_7_3_A, x_7_3_U, x_4_3, x_4_1, x_79_3_12_d0, x_79_3_12_d1, x_79_3_12_d2, x_79_3_12_d3, x_79_3_12_d4, x_67, x_60, x_11, x_10_3_I, x_10_3_A, x_10_3_U, x_10_2_I, x_10_2_A, x_10_2_U, x_82, cb_ri, cb_rl, cb_rv, cb_th, cb_ite, ps_s, ps_n, u_297_0, u_297_66, u_297_67, u_297_75, u_297_81]
    refine loop_g (F := fun x (v : AV) => run (lr + 79) 297 9 [aA 12 0, aI ((sumN (fun x => cnt (crB (h 187 0) x) H) x : Nat) : Int), aI (x : Int), v] [] (hset g 186 0 0 0)) (N := H) ?_ ?_ none
    · intro x v hx
      refine ⟨aI (H : Int), ?_⟩
      show run _ _ _ _ _ _ = run _ _ _ [aA 12 0, aI ((sumN (fun x => cnt (crB (h 187 0) x) H) x + cnt (crB (h 187 0) x) H : Nat) : Int), _, _] _ _
      have s1 := sb x
      rw [hd_297_9]
      simp (disch := omega) only [x_6_0, x_1, x_36, x_7_1_I, x_7_1_A, x_7_1_U, x_7_2_I, x_7_2_A, x_7_2_U, x_61, x_4_2, x_34, x_38_187, x_65, x_7_3_I, x_7_3_A, x_7_3_U, x_4_3, x_4_1, x_79_3_12_d0, x_79_3_12_d1, x_79_3_12_d2, x_79_3_12_d3, x_79_3_12_d4, x_67, x_60, x_11, x_10_3_I, x_10_3_A, x_10_3_U, x_10_2_I, x_10_2_A, x_10_2_U, x_82, cb_ri, cb_rl, cb_rv, cb_th, cb_ite, ps_s, ps_n, u_297_0, u_297_66, u_297_67, u_297_75, u_297_81, m3, Int.reduceEq, Int.reduceLT, Int.reduceLE, reduceIte, Int.reduceAdd, Int.reduceSub, Int.reduceMul, Int.reduceNeg, Int.reduceToNat, Bool.false_eq_true, eq_self, if_pos, if_neg]
      refine loop_up (F := fun y => run (lr + 79) 297 21 [aA 12 0, aI ((sumN (fun x => cnt (crB (h 187 0) x) H) x + cnt (crB (h 187 0) x) y : Nat) : Int), aI (x : Int), aI (y : Int)] [] (hset g 186 0 0 0)) (N := H) ?_ ?_ 0 (by omega)
      · intro y hy
        have x0 : cl (lr + 79) 173 [aA 12 0, aI (x : Int), aI 0] (hset g 186 0 0 0) = _ := it x 0 (by omega) (by omega)
        have x1 : cl (lr + 79) 173 [aA 12 0, aI (x : Int), aI 1] (hset g 186 0 0 0) = _ := it x 1 (by omega) (by omega)
        have y0 : cl (lr + 79) 173 [aA 12 0, aI (y : Int), aI 0] (hset g 186 0 0 0) = _ := it y 0 (by omega) (by omega)
        have y1 : cl (lr + 79) 173 [aA 12 0, aI (y : Int), aI 1] (hset g 186 0 0 0) = _ := it y 1 (by omega) (by omega)
        rw [Nat.add_zero] at x0 y0
        have c1 := cnt_le (crB (h 187 0) x) y
        show run _ _ _ _ _ _ = run _ _ _ [_, aI ((sumN (fun x => cnt (crB (h 187 0) x) H) x + (cnt (crB (h 187 0) x) y + if crB (h 187 0) x y = true then 1 else 0) : Nat) : Int), _, _] _ _
        generalize sumN (fun x => cnt (crB (h 187 0) x) H) x = sm at s1 ⊢
        rw [hd_297_21]
        by_cases d1 : h 187 0 (14 + 6 * x) < h 187 0 (14 + 6 * y)
        · by_cases d2 : h 187 0 (14 + 6 * y + 1) < h 187 0 (14 + 6 * x + 1)
          · have p : crB (h 187 0) x y = true := by simp [crB, d1, d2]
            rw [if_pos p, ← Nat.add_assoc]
            simp (disch := omega) only [x_6_0, x_1, x_36, x_7_1_I, x_7_1_A, x_7_1_U, x_7_2_I, x_7_2_A, x_7_2_U, x_61, x_4_2, x_34, x_38_187, x_65, x_7_3_I, x_7_3_A, x_7_3_U, x_4_3, x_4_1, x_79_3_12_d0, x_79_3_12_d1, x_79_3_12_d2, x_79_3_12_d3, x_79_3_12_d4, x_67, x_60, x_11, x_10_3_I, x_10_3_A, x_10_3_U, x_10_2_I, x_10_2_A, x_10_2_U, x_82, cb_ri, cb_rl, cb_rv, cb_th, cb_ite, ps_s, ps_n, u_297_0, u_297_66, u_297_67, u_297_75, u_297_81, m3, x0, x1, y0, y1, d1, d2, Int.reduceEq, Int.reduceLT, Int.reduceLE, reduceIte, Int.reduceAdd, Int.reduceSub, Int.reduceMul, Int.reduceNeg, Int.reduceToNat, Bool.false_eq_true, eq_self, if_pos, if_neg, ci, w32_id]
          · have p : crB (h 187 0) x y = false := by simp [crB, d2]
            rw [if_neg (by rw [p]; exact Bool.false_ne_true)]
            simp (disch := omega) only [x_6_0, x_1, x_36, x_7_1_I, x_7_1_A, x_7_1_U, x_7_2_I, x_7_2_A, x_7_2_U, x_61, x_4_2, x_34, x_38_187, x_65, x_7_3_I, x_7_3_A, x_7_3_U, x_4_3, x_4_1, x_79_3_12_d0, x_79_3_12_d1, x_79_3_12_d2, x_79_3_12_d3, x_79_3_12_d4, x_67, x_60, x_11, x_10_3_I, x_10_3_A, x_10_3_U, x_10_2_I, x_10_2_A, x_10_2_U, x_82, cb_ri, cb_rl, cb_rv, cb_th, cb_ite, ps_s, ps_n, u_297_0, u_297_66, u_297_67, u_297_75, u_297_81, m3, x0, x1, y0, y1, d1, d2, Nat.add_zero, Int.reduceEq, Int.reduceLT, Int.reduceLE, reduceIte, Int.reduceAdd, Int.reduceSub, Int.reduceMul, Int.reduceNeg, Int.reduceToNat, Bool.false_eq_true, eq_self, if_pos, if_neg, ci, w32_id, Int.add_zero]
        · have p : crB (h 187 0) x y = false := by simp [crB, d1]
          rw [if_neg (by rw [p]; exact Bool.false_ne_true)]
          simp (disch := omega) only [x_6_0, x_1, x_36, x_7_1_I, x_7_1_A, x_7_1_U, x_7_2_I, x_7_2_A, x_7_2_U, x_61, x_4_2, x_34, x_38_187, x_65, x_7_3_I, x_7_3_A, x_7_3_U, x_4_3, x_4_1, x_79_3_12_d0, x_79_3_12_d1, x_79_3_12_d2, x_79_3_12_d3, x_79_3_12_d4, x_67, x_60, x_11, x_10_3_I, x_10_3_A, x_10_3_U, x_10_2_I, x_10_2_A, x_10_2_U, x_82, cb_ri, cb_rl, cb_rv, cb_th, cb_ite, ps_s, ps_n, u_297_0, u_297_66, u_297_67, u_297_75, u_297_81, m3, x0, y0, d1, Nat.add_zero, Int.reduceEq, Int.reduceLT, Int.reduceLE, reduceIte, Int.reduceAdd, Int.reduceSub, Int.reduceMul, Int.reduceNeg, Int.reduceToNat, Bool.false_eq_true, eq_self, if_pos, if_neg, ci, w32_id, Int.add_zero]
      · show run _ _ _ _ _ _ = _
        rw [hd_297_21]
        simp (disch := omega) only [x_6_0, x_1, x_36, x_7_1_I, x_7_1_A, x_7_1_U, x_7_2_I, x_7_2_A, x_7_2_U, x_61, x_4_2, x_34, x_38_187, x_65, x_7_3_I, x_7_3_A, x_7_3_U, x_4_3, x_4_1, x_79_3_12_d0, x_79_3_12_d1, x_79_3_12_d2, x_79_3_12_d3, x_79_3_12_d4, x_67, x_60, x_11, x_10_3_I, x_10_3_A, x_10_3_U, x_10_2_I, x_10_2_A, x_10_2_U, x_82, cb_ri, cb_rl, cb_rv, cb_th, cb_ite, ps_s, ps_n, u_297_0, u_297_66, u_297_67, u_297_75, u_297_81, m3, Int.reduceEq, Int.reduceLT, Int.reduceLE, reduceIte, Int.reduceAdd, Int.reduceSub, Int.reduceMul, Int.reduceNeg, Int.reduceToNat, Bool.false_eq_true, eq_self, if_pos, if_neg, ci, w32_id]
    · intro v
      show run _ _ _ _ _ _ = _
      rw [hd_297_9]
      simp (disch := omega) only [x_6_0, x_1, x_36, x_7_1_I, x_7_1_A, x_7_1_U, x_7_2_I, x_7_2_A, x_7_2_U, x_61, x_4_2, x_34, x_38_187, x_65, x_7_3_I, x_7_3_A, x_7_3_U, x_4_3, x_4_1, x_79_3_12_d0, x_79_3_12_d1, x_79_3_12_d2, x_79_3_12_d3, x_79_3_12_d4, x_67, x_60, x_11, x_10_3_I, x_10_3_A, x_10_3_U, x_10_2_I, x_10_2_A, x_10_2_U, x_82, cb_ri, cb_rl, cb_rv, cb_th, cb_ite, ps_s, ps_n, u_297_0, u_297_66, u_297_67, u_297_75, u_297_81, m3, Int.reduceEq, Int.reduceLT, Int.reduceLE, reduceIte, Int.reduceAdd, Int.reduceSub, Int.reduceMul, Int.reduceNeg, Int.reduceToNat, Bool.false_eq_true, eq_self, if_pos, if_neg]
theorem alk_0 (M : Nat → Int) (x : Nat) : ∀ y, y ≤ x + 1 → cnt (alkB M x) y = 0 := by
  intro y
  induction y with
  | zero => intro _; rfl
  | succ y ih =>
    intro hy
    show cnt (alkB M x) y + (if alkB M x y = true then 1 else 0) = 0
    rw [ih (by omega), if_neg (by unfold alkB; simp; omega)]
theorem ag_alike (lc lr H N : Nat) (h : Hp) (I : INV h H N) : AGp (fun h => cl (lc + 80) 136 [aA 11 0] h) (fun h => cl (lr + 80) 301 [aA 12 0] h) h := by
  have hH := I.1.2.1.1.2.1
  have h39 := I.1.1.1.1
  have sb := sumN_b (f := fun x => cnt (alkB (h 187 0) x) H) (K := 6) (fun i => Nat.le_trans (cnt_le _ _) hH)
  refine AGp_q I (v := ((sumN (fun x => cnt (alkB (h 187 0) x) H) H : Nat) : Int)) ⟨h, ?_, Sm_r _ _⟩ (fun g s J => ⟨hset g 186 0 0 0, ?_, rsc_186 g 0⟩)
  · show cl (lc + 80) _ _ _ = _
    rw [in_136]
    simp (disch := omega) only [x_1, x_7_1_I, x_7_1_A, x_7_1_U, x_7_2_I, x_7_2_A, x_7_2_U, x_61, x_4_2, x_6_0, x_35_0, x_33, x_65, x_11, x_7_3_I, x_7_3_A, x_7_3_U, x_4_3, x_34, x_38_131, x_38_132, x_63, x_10_1_I, x_10_1_A, x_10_1_U, x_10_3_I, x_10_3_A, x_10_3_U, x_60, x_10_2_I, x_10_2_A, x_10_2_U, x_4_1, x_82, u_136_0, u_136_75, u_136_81, u_136_87]
    refine loop_g (F := fun x (v : AV) => run (lc + 79) 136 4 [aA 11 0, aI ((sumN (fun x => cnt (alkB (h 187 0) x) H) x : Nat) : Int), aI (x : Int), v] [] h) (N := H) ?_ ?_ none
    · intro x v hx
      refine ⟨aI (H : Int), ?_⟩
      show run _ _ _ _ _ _ = run _ _ _ [aA 11 0, aI ((sumN (fun x => cnt (alkB (h 187 0) x) H) x + cnt (alkB (h 187 0) x) H : Nat) : Int), _, _] _ _
      have s1 := sb x
      rw [hd_136_4]
      simp (disch := omega) only [x_1, x_7_1_I, x_7_1_A, x_7_1_U, x_7_2_I, x_7_2_A, x_7_2_U, x_61, x_4_2, x_6_0, x_35_0, x_33, x_65, x_11, x_7_3_I, x_7_3_A, x_7_3_U, x_4_3, x_34, x_38_131, x_38_132, x_63, x_10_1_I, x_10_1_A, x_10_1_U, x_10_3_I, x_10_3_A, x_10_3_U, x_60, x_10_2_I, x_10_2_A, x_10_2_U, x_4_1, x_82, u_136_0, u_136_75, u_136_81, u_136_87, h39, Int.reduceEq, Int.reduceLT, Int.reduceLE, reduceIte, Int.reduceAdd, Int.reduceSub, Int.reduceMul, Int.reduceNeg, Int.reduceToNat, Bool.false_eq_true, eq_self, if_pos, if_neg, ci, w32_id]
      have main := loop_up (F := fun y => run (lc + 79) 136 19 [aA 11 0, aI ((sumN (fun x => cnt (alkB (h 187 0) x) H) x + cnt (alkB (h 187 0) x) (x + 1 + y) : Nat) : Int), aI (x : Int), aI ((x + 1 + y : Nat) : Int)] [] h) (N := H - (x + 1)) (r := run (lc + 79) 136 4 [aA 11 0, aI ((sumN (fun x => cnt (alkB (h 187 0) x) H) x + cnt (alkB (h 187 0) x) H : Nat) : Int), aI ((x + 1 : Nat) : Int), aI (H : Int)] [] h) ?_ ?_ 0 (by omega)
      · simp only [Nat.add_zero, alk_0 (h 187 0) x (x + 1) (Nat.le_refl _)] at main
        exact main
      · intro y hy
        obtain ⟨-, -, a2, a3, -⟩ := I.1.1.1.2.2.2 x hx
        obtain ⟨-, -, b2, b3, -⟩ := I.1.1.1.2.2.2 (x + 1 + y) (by omega)
        have c1 := cnt_le (alkB (h 187 0) x) (x + 1 + y)
        show run _ _ _ _ _ _ = run _ _ _ [_, aI ((sumN (fun x => cnt (alkB (h 187 0) x) H) x + (cnt (alkB (h 187 0) x) (x + 1 + y) + if alkB (h 187 0) x (x + 1 + y) = true then 1 else 0) : Nat) : Int), _, _] _ _
        generalize sumN (fun x => cnt (alkB (h 187 0) x) H) x = sm at s1 ⊢
        have hlt : x < x + 1 + y := by omega
        have ez : ((x + 1 + (y + 1) : Nat) : Int) = ((x + 1 + y : Nat) : Int) + 1 := by omega
        rw [ez, hd_136_19]
        generalize hz : x + 1 + y = z at *
        by_cases d1 : h 187 0 (14 + 6 * x + 2) = h 187 0 (14 + 6 * z + 2)
        · by_cases d2 : h 187 0 (14 + 6 * x + 3) = h 187 0 (14 + 6 * z + 3)
          · have p : alkB (h 187 0) x z = true := by simp [alkB, d1, d2, hlt]
            rw [if_pos p, ← Nat.add_assoc]
            simp (disch := omega) only [x_1, x_7_1_I, x_7_1_A, x_7_1_U, x_7_2_I, x_7_2_A, x_7_2_U, x_61, x_4_2, x_6_0, x_35_0, x_33, x_65, x_11, x_7_3_I, x_7_3_A, x_7_3_U, x_4_3, x_34, x_38_131, x_38_132, x_63, x_10_1_I, x_10_1_A, x_10_1_U, x_10_3_I, x_10_3_A, x_10_3_U, x_60, x_10_2_I, x_10_2_A, x_10_2_U, x_4_1, x_82, u_136_0, u_136_75, u_136_81, u_136_87, h39, tn, a2, a3, b2, b3, d1, d2, Int.reduceEq, Int.reduceLT, Int.reduceLE, reduceIte, Int.reduceAdd, Int.reduceSub, Int.reduceMul, Int.reduceNeg, Int.reduceToNat, Bool.false_eq_true, eq_self, if_pos, if_neg, ci, w32_id]
          · have p : alkB (h 187 0) x z = false := by simp [alkB, d2]
            rw [if_neg (by rw [p]; exact Bool.false_ne_true)]
            simp (disch := omega) only [x_1, x_7_1_I, x_7_1_A, x_7_1_U, x_7_2_I, x_7_2_A, x_7_2_U, x_61, x_4_2, x_6_0, x_35_0, x_33, x_65, x_11, x_7_3_I, x_7_3_A, x_7_3_U, x_4_3, x_34, x_38_131, x_38_132, x_63, x_10_1_I, x_10_1_A, x_10_1_U, x_10_3_I, x_10_3_A, x_10_3_U, x_60, x_10_2_I, x_10_2_A, x_10_2_U, x_4_1, x_82, u_136_0, u_136_75, u_136_81, u_136_87, h39, tn, a2, a3, b2, b3, d1, d2, Nat.add_zero, Int.reduceEq, Int.reduceLT, Int.reduceLE, reduceIte, Int.reduceAdd, Int.reduceSub, Int.reduceMul, Int.reduceNeg, Int.reduceToNat, Bool.false_eq_true, eq_self, if_pos, if_neg, w32_id]
        · have p : alkB (h 187 0) x z = false := by simp [alkB, d1]
          rw [if_neg (by rw [p]; exact Bool.false_ne_true)]
          simp (disch := omega) only [x_1, x_7_1_I, x_7_1_A, x_7_1_U, x_7_2_I, x_7_2_A, x_7_2_U, x_61, x_4_2, x_6_0, x_35_0, x_33, x_65, x_11, x_7_3_I, x_7_3_A, x_7_3_U, x_4_3, x_34, x_38_131, x_38_132, x_63, x_10_1_I, x_10_1_A, x_10_1_U, x_10_3_I, x_10_3_A, x_10_3_U, x_60, x_10_2_I, x_10_2_A, x_10_2_U, x_4_1, x_82, u_136_0, u_136_75, u_136_81, u_136_87, h39, tn, a2, b2, d1, Nat.add_zero, Int.reduceEq, Int.reduceLT, Int.reduceLE, reduceIte, Int.reduceAdd, Int.reduceSub, Int.reduceMul, Int.reduceNeg, Int.reduceToNat, Bool.false_eq_true, eq_self, if_pos, if_neg, w32_id]
      · show run _ _ _ _ _ _ = _
        rw [show x + 1 + (H - (x + 1)) = H by omega, hd_136_19]
        simp (disch := omega) only [x_1, x_7_1_I, x_7_1_A, x_7_1_U, x_7_2_I, x_7_2_A, x_7_2_U, x_61, x_4_2, x_6_0, x_35_0, x_33, x_65, x_11, x_7_3_I, x_7_3_A, x_7_3_U, x_4_3, x_34, x_38_131, x_38_132, x_63, x_10_1_I, x_10_1_A, x_10_1_U, x_10_3_I, x_10_3_A, x_10_3_U, x_60, x_10_2_I, x_10_2_A, x_10_2_U, x_4_1, x_82, u_136_0, u_136_75, u_136_81, u_136_87, h39, Int.reduceEq, Int.reduceLT, Int.reduceLE, reduceIte, Int.reduceAdd, Int.reduceSub, Int.reduceMul, Int.reduceNeg, Int.reduceToNat, Bool.false_eq_true, eq_self, if_pos, if_neg, ci, w32_id]
    · intro v
      show run _ _ _ _ _ _ = _
      rw [hd_136_4]
      simp (disch := omega) only [x_1, x_7_1_I, x_7_1_A, x_7_1_U, x_7_2_I, x_7_2_A, x_7_2_U, x_61, x_4_2, x_6_0, x_35_0, x_33, x_65, x_11, x_7_3_I, x_7_3_A, x_7_3_U, x_4_3, x_34, x_38_131, x_38_132, x_63, x_10_1_I, x_10_1_A, x_10_1_U, x_10_3_I, x_10_3_A, x_10_3_U, x_60, x_10_2_I, x_10_2_A, x_10_2_U, x_4_1, x_82, u_136_0, u_136_75, u_136_81, u_136_87, h39, Int.reduceEq, Int.reduceLT, Int.reduceLE, reduceIte, Int.reduceAdd, Int.reduceSub, Int.reduceMul, Int.reduceNeg, Int.reduceToNat, Bool.false_eq_true, eq_self, if_pos, if_neg]
  · show cl (lr + 80) _ _ _ = _
    have g7 : hset g 186 0 0 0 187 0 = h 187 0 := by rw [h186_m, Sm_187 s scr_187]
    have m3 : hset g 186 0 0 0 187 0 3 = (H : Int) := by rw [g7]; exact I.1.2.1.1.1
    have it : ∀ x f : Nat, x < 7 → f < 6 → cl (lr + 79) 173 [aA 12 0, aI (x : Int), aI (f : Int)] (hset g 186 0 0 0) = ri (h 187 0 (14 + 6 * x + f)) (hset g 186 0 0 0) := fun x f hx hf => by have := its_c (lr + 78) x f (hset g 186 0 0 0) hx hf; rw [g7] at this; exact this
    rw [in_301]
    simp (disch := omega) only [x_6_0, x_1, x_36, x_7_1_I, x_7_1_A, x_7_1_U, x_7_2_I, x_7_2_A, x_7_2_U, x_61, x_4_2, x_34, x_38_187, x_65, x_11, x_7_3_I, x_7_3_A, x_7_3_U, x_4_3, x_4_1, x_79_3_12_d0, x_79_3_12_d1, x_79_3_12_d2, x_79_3_12_d3, x_79_3_12_d4, x_63, x_60, x_10_3_I, x_10_3_A, x_10_3_U, x_10_2_I, x_10_2_A, x_10_2_U, x_82, cb_ri, cb_rl, cb_rv, cb_th, cb_ite, ps_s, ps_n, u_301_0, u_301_68, u_301_69, u_301_77, u_301_83]
    refine loop_g (F := fun x (v : AV) => run (lr + 79) 301 9 [aA 12 0, aI ((sumN (fun x => cnt (alkB (h 187 0) x) H) x : Nat) : Int), aI (x : Int), v] [] (hset g 186 0 0 0)) (N := H) ?_ ?_ none
    · intro x v hx
      refine ⟨aI (H : Int), ?_⟩
      show run _ _ _ _ _ _ = run _ _ _ [aA 12 0, aI ((sumN (fun x => cnt (alkB (h 187 0) x) H) x + cnt (alkB (h 187 0) x) H : Nat) : Int), _, _] _ _
      have s1 := sb x
      rw [hd_301_9]
      simp (disch := omega) only [x_6_0, x_1, x_36, x_7_1_I, x_7_1_A, x_7_1_U, x_7_2_I, x_7_2_A, x_7_2_U, x_61, x_4_2, x_34, x_38_187, x_65, x_11, x_7_3_I, x_7_3_A, x_7_3_U, x_4_3, x_4_1, x_79_3_12_d0, x_79_3_12_d1, x_79_3_12_d2, x_79_3_12_d3, x_79_3_12_d4, x_63, x_60, x_10_3_I, x_10_3_A, x_10_3_U, x_10_2_I, x_10_2_A, x_10_2_U, x_82, cb_ri, cb_rl, cb_rv, cb_th, cb_ite, ps_s, ps_n, u_301_0, u_301_68, u_301_69, u_301_77, u_301_83, m3, Int.reduceEq, Int.reduceLT, Int.reduceLE, reduceIte, Int.reduceAdd, Int.reduceSub, Int.reduceMul, Int.reduceNeg, Int.reduceToNat, Bool.false_eq_true, eq_self, if_pos, if_neg, ci, w32_id]
      have main := loop_up (F := fun y => run (lr + 79) 301 23 [aA 12 0, aI ((sumN (fun x => cnt (alkB (h 187 0) x) H) x + cnt (alkB (h 187 0) x) (x + 1 + y) : Nat) : Int), aI (x : Int), aI ((x + 1 + y : Nat) : Int)] [] (hset g 186 0 0 0)) (N := H - (x + 1)) (r := run (lr + 79) 301 9 [aA 12 0, aI ((sumN (fun x => cnt (alkB (h 187 0) x) H) x + cnt (alkB (h 187 0) x) H : Nat) : Int), aI ((x + 1 : Nat) : Int), aI (H : Int)] [] (hset g 186 0 0 0)) ?_ ?_ 0 (by omega)
      · simp only [Nat.add_zero, alk_0 (h 187 0) x (x + 1) (Nat.le_refl _)] at main
        exact main
      · intro y hy
        have x2 : cl (lr + 79) 173 [aA 12 0, aI (x : Int), aI 2] (hset g 186 0 0 0) = _ := it x 2 (by omega) (by omega)
        have x3 : cl (lr + 79) 173 [aA 12 0, aI (x : Int), aI 3] (hset g 186 0 0 0) = _ := it x 3 (by omega) (by omega)
        have y2 : cl (lr + 79) 173 [aA 12 0, aI ((x + 1 + y : Nat) : Int), aI 2] (hset g 186 0 0 0) = _ := it (x + 1 + y) 2 (by omega) (by omega)
        have y3 : cl (lr + 79) 173 [aA 12 0, aI ((x + 1 + y : Nat) : Int), aI 3] (hset g 186 0 0 0) = _ := it (x + 1 + y) 3 (by omega) (by omega)
        have c1 := cnt_le (alkB (h 187 0) x) (x + 1 + y)
        show run _ _ _ _ _ _ = run _ _ _ [_, aI ((sumN (fun x => cnt (alkB (h 187 0) x) H) x + (cnt (alkB (h 187 0) x) (x + 1 + y) + if alkB (h 187 0) x (x + 1 + y) = true then 1 else 0) : Nat) : Int), _, _] _ _
        generalize sumN (fun x => cnt (alkB (h 187 0) x) H) x = sm at s1 ⊢
        have hlt : x < x + 1 + y := by omega
        have ez : ((x + 1 + (y + 1) : Nat) : Int) = ((x + 1 + y : Nat) : Int) + 1 := by omega
        rw [ez, hd_301_23]
        generalize hz : x + 1 + y = z at *
        by_cases d1 : h 187 0 (14 + 6 * x + 2) = h 187 0 (14 + 6 * z + 2)
        · by_cases d2 : h 187 0 (14 + 6 * x + 3) = h 187 0 (14 + 6 * z + 3)
          · have p : alkB (h 187 0) x z = true := by simp [alkB, d1, d2, hlt]
            rw [if_pos p, ← Nat.add_assoc]
            simp (disch := omega) only [x_6_0, x_1, x_36, x_7_1_I, x_7_1_A, x_7_1_U, x_7_2_I, x_7_2_A, x_7_2_U, x_61, x_4_2, x_34, x_38_187, x_65, x_11, x_7_3_I, x_7_3_A, x_7_3_U, x_4_3, x_4_1, x_79_3_12_d0, x_79_3_12_d1, x_79_3_12_d2, x_79_3_12_d3, x_79_3_12_d4, x_63, x_60, x_10_3_I, x_10_3_A, x_10_3_U, x_10_2_I, x_10_2_A, x_10_2_U, x_82, cb_ri, cb_rl, cb_rv, cb_th, cb_ite, ps_s, ps_n, u_301_0, u_301_68, u_301_69, u_301_77, u_301_83, m3, x2, x3, y2, y3, d1, d2, Int.reduceEq, Int.reduceLT, Int.reduceLE, reduceIte, Int.reduceAdd, Int.reduceSub, Int.reduceMul, Int.reduceNeg, Int.reduceToNat, Bool.false_eq_true, eq_self, if_pos, if_neg, ci, w32_id]
          · have p : alkB (h 187 0) x z = false := by simp [alkB, d2]
            rw [if_neg (by rw [p]; exact Bool.false_ne_true)]
            simp (disch := omega) only [x_6_0, x_1, x_36, x_7_1_I, x_7_1_A, x_7_1_U, x_7_2_I, x_7_2_A, x_7_2_U, x_61, x_4_2, x_34, x_38_187, x_65, x_11, x_7_3_I, x_7_3_A, x_7_3_U, x_4_3, x_4_1, x_79_3_12_d0, x_79_3_12_d1, x_79_3_12_d2, x_79_3_12_d3, x_79_3_12_d4, x_63, x_60, x_10_3_I, x_10_3_A, x_10_3_U, x_10_2_I, x_10_2_A, x_10_2_U, x_82, cb_ri, cb_rl, cb_rv, cb_th, cb_ite, ps_s, ps_n, u_301_0, u_301_68, u_301_69, u_301_77, u_301_83, m3, x2, x3, y2, y3, d1, d2, Nat.add_zero, Int.reduceEq, Int.reduceLT, Int.reduceLE, reduceIte, Int.reduceAdd, Int.reduceSub, Int.reduceMul, Int.reduceNeg, Int.reduceToNat, Bool.false_eq_true, eq_self, if_pos, if_neg, w32_id, Int.add_zero]
        · have p : alkB (h 187 0) x z = false := by simp [alkB, d1]
          rw [if_neg (by rw [p]; exact Bool.false_ne_true)]
          simp (disch := omega) only [x_6_0, x_1, x_36, x_7_1_I, x_7_1_A, x_7_1_U, x_7_2_I, x_7_2_A, x_7_2_U, x_61, x_4_2, x_34, x_38_187, x_65, x_11, x_7_3_I, x_7_3_A, x_7_3_U, x_4_3, x_4_1, x_79_3_12_d0, x_79_3_12_d1, x_79_3_12_d2, x_79_3_12_d3, x_79_3_12_d4, x_63, x_60, x_10_3_I, x_10_3_A, x_10_3_U, x_10_2_I, x_10_2_A, x_10_2_U, x_82, cb_ri, cb_rl, cb_rv, cb_th, cb_ite, ps_s, ps_n, u_301_0, u_301_68, u_301_69, u_301_77, u_301_83, m3, x2, y2, d1, Nat.add_zero, Int.reduceEq, Int.reduceLT, Int.reduceLE, reduceIte, Int.reduceAdd, Int.reduceSub, Int.reduceMul, Int.reduceNeg, Int.reduceToNat, Bool.false_eq_true, eq_self, if_pos, if_neg, w32_id, Int.add_zero]
      · show run _ _ _ _ _ _ = _
        rw [show x + 1 + (H - (x + 1)) = H by omega, hd_301_23]
        simp (disch := omega) only [x_6_0, x_1, x_36, x_7_1_I, x_7_1_A, x_7_1_U, x_7_2_I, x_7_2_A, x_7_2_U, x_61, x_4_2, x_34, x_38_187, x_65, x_11, x_7_3_I, x_7_3_A, x_7_3_U, x_4_3, x_4_1, x_79_3_12_d0, x_79_3_12_d1, x_79_3_12_d2, x_79_3_12_d3, x_79_3_12_d4, x_63, x_60, x_10_3_I, x_10_3_A, x_10_3_U, x_10_2_I, x_10_2_A, x_10_2_U, x_82, cb_ri, cb_rl, cb_rv, cb_th, cb_ite, ps_s, ps_n, u_301_0, u_301_68, u_301_69, u_301_77, u_301_83, m3, Int.reduceEq, Int.reduceLT, Int.reduceLE, reduceIte, Int.reduceAdd, Int.reduceSub, Int.reduceMul, Int.reduceNeg, Int.reduceToNat, Bool.false_eq_true, eq_self, if_pos, if_neg, ci, w32_id]
    · intro v
      show run _ _ _ _ _ _ = _
      rw [hd_301_9]
      simp (disch := omega) only [x_6_0, x_1, x_36, x_7_1_I, x_7_1_A, x_7_1_U, x_7_2_I, x_7_2_A, x_7_2_U, x_61, x_4_2, x_34, x_38_187, x_65, x_11, x_7_3_I, x_7_3_A, x_7_3_U, x_4_3, x_4_1, x_79_3_12_d0, x_79_3_12_d1, x_79_3_12_d2, x_79_3_12_d3, x_79_3_12_d4, x_63, x_60, x_10_3_I, x_10_3_A, x_10_3_U, x_10_2_I, x_10_2_A, x_10_2_U, x_82, cb_ri, cb_rl, cb_rv, cb_th, cb_ite, ps_s, ps_n, u_301_0, u_301_68, u_301_69, u_301_77, u_301_83, m3, Int.reduceEq, Int.reduceLT, Int.reduceLE, reduceIte, Int.reduceAdd, Int.reduceSub, Int.reduceMul, Int.reduceNeg, Int.reduceToNat, Bool.false_eq_true, eq_self, if_pos, if_neg]
