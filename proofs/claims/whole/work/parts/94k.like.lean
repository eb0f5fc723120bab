/-! CHORDS ALIKE. -/
def lkB (M : Nat → Int) (N x y : Nat) : Bool := decide (x < y) && (decide (oKs M (x : Int) N ≠ 0) && decide (oKs M (x : Int) N = oKs M (y : Int) N))
theorem lk_0 (M : Nat → Int) (N x : Nat) : ∀ y, y ≤ x + 1 → cnt (lkB M N x) y = 0 := by
  intro y
  induction y with
  | zero => intro _; rfl
  | succ y ih =>
    intro hy
    show cnt (lkB M N x) y + (if lkB M N x y = true then 1 else 0) = 0
    rw [ih (by omega), if_neg (by unfold lkB; rw [decide_eq_false (show ¬ x < y by omega), Bool.false_and]; decide)]
theorem lk_n (M : Nat → Int) (N x : Nat) (h : oKs M (x : Int) N = 0) : ∀ y, cnt (lkB M N x) y = 0 := by
  intro y
  induction y with
  | zero => rfl
  | succ y ih =>
    show cnt (lkB M N x) y + (if lkB M N x y = true then 1 else 0) = 0
    rw [ih, if_neg (by unfold lkB; rw [h]; simp)]
theorem jc_eq {a b : Nat} (e : a = b) : jcmp (kJ a) (kJ b) = 0 := by rw [e]; unfold jcmp; simp
theorem jc_ne {a b : Nat} (ha : a < 2 ^ 64) (hb : b < 2 ^ 64) (e : ¬ a = b) : ¬ jcmp (kJ a) (kJ b) = 0 := by
  have : ¬ kJ a = kJ b := fun z => e (kJ_inj ha hb z)
  unfold jcmp
  split
  · omega
  · omega
theorem oKs_ext {M : Nat → Int} {N : Nat} (hk : ∀ i, i < N → 0 ≤ M (50 + 4 * i + 1) ∧ M (50 + 4 * i + 1) ≤ 63) (x y : Int) : oKs M x N = oKs M y N ↔ ∀ j : Nat, j < 64 → anyB (thB M (j : Int) x (-1)) N = anyB (thB M (j : Int) y (-1)) N := by
  constructor
  · intro e j hj
    rw [← oKs_bit hk j, ← oKs_bit hk j, e]
  · intro e
    apply Nat.eq_of_testBit_eq
    intro j
    by_cases c : j < 64
    · rw [oKs_bit hk, oKs_bit hk]; exact e j c
    · rw [Nat.testBit_lt_two_pow (Nat.lt_of_lt_of_le (oKs_lt hk) (Nat.pow_le_pow_right (by omega) (by omega))), Nat.testBit_lt_two_pow (Nat.lt_of_lt_of_le (oKs_lt hk) (Nat.pow_le_pow_right (by omega) (by omega)))]
theorem areLike_m (lv N : Nat) (x y : Int) (h : Hp) (h4 : h 187 0 4 = (N : Int)) (hN : N ≤ 14) (hk : ∀ i, i < N → 0 ≤ h 187 0 (50 + 4 * i + 1) ∧ h 187 0 (50 + 4 * i + 1) ≤ 63) : cl (lv + 4) 274 [aA 12 0, aI x, aI y] h = ri (boI (decide (oKs (h 187 0) x N ≠ 0) && decide (oKs (h 187 0) x N = oKs (h 187 0) y N))) h := by
  have na := notesOf_c lv N x h h4 hN
  have bo := bs_oKs (M := h 187 0) (b := x) N
  have ox := oKs_ext hk x y
  rw [in_274]
  by_cases c : oKs (h 187 0) x N = 0
  · rw [bo.mpr c] at na
    rw [decide_eq_false (fun z => z c), Bool.false_and]
    simp (disch := omega) only [x_6_0, x_4_1, x_79_2_12_d0, x_79_2_12_d1, x_79_2_12_d2, x_79_2_12_d3, x_79_2_12_d4, x_68, x_1, x_60, x_61, x_7_3_I, x_7_3_A, x_7_3_U, x_7_4_I, x_7_4_A, x_7_4_U, x_4_4, x_65, x_4_3, x_79_4_12_d0, x_79_4_12_d1, x_79_4_12_d2, x_79_4_12_d3, x_79_4_12_d4, x_4_2, x_63, x_10_4_I, x_10_4_A, x_10_4_U, x_85, cb_ri, cb_rl, cb_rv, cb_th, cb_ite, ps_s, ps_n, u_274_0, u_274_12, u_274_13, u_274_51, u_274_52, u_274_59, na, Int.natCast_zero, Int.reduceEq, Int.reduceLT, Int.reduceLE, reduceIte, Int.reduceAdd, Int.reduceSub, Int.reduceMul, Int.reduceNeg, Int.reduceToNat, Bool.false_eq_true, eq_self, if_pos, if_neg]
    rw [hd_274_17]
    simp (disch := omega) only [x_6_0, x_4_1, x_79_2_12_d0, x_79_2_12_d1, x_79_2_12_d2, x_79_2_12_d3, x_79_2_12_d4, x_68, x_1, x_60, x_61, x_7_3_I, x_7_3_A, x_7_3_U, x_7_4_I, x_7_4_A, x_7_4_U, x_4_4, x_65, x_4_3, x_79_4_12_d0, x_79_4_12_d1, x_79_4_12_d2, x_79_4_12_d3, x_79_4_12_d4, x_4_2, x_63, x_10_4_I, x_10_4_A, x_10_4_U, x_85, cb_ri, cb_rl, cb_rv, cb_th, cb_ite, ps_s, ps_n, u_274_0, u_274_12, u_274_13, u_274_51, u_274_52, u_274_59, Int.reduceEq, Int.reduceLT, Int.reduceLE, reduceIte, Int.reduceAdd, Int.reduceSub, Int.reduceMul, Int.reduceNeg, Int.reduceToNat, Bool.false_eq_true, eq_self, if_pos, if_neg]
    rfl
  · have nz : ¬ ((bsN (atB (h 187 0) x) N : Nat) : Int) = 0 := fun z => c (bo.mp (by omega))
    rw [decide_eq_true c, Bool.true_and]
    simp (disch := omega) only [x_6_0, x_4_1, x_79_2_12_d0, x_79_2_12_d1, x_79_2_12_d2, x_79_2_12_d3, x_79_2_12_d4, x_68, x_1, x_60, x_61, x_7_3_I, x_7_3_A, x_7_3_U, x_7_4_I, x_7_4_A, x_7_4_U, x_4_4, x_65, x_4_3, x_79_4_12_d0, x_79_4_12_d1, x_79_4_12_d2, x_79_4_12_d3, x_79_4_12_d4, x_4_2, x_63, x_10_4_I, x_10_4_A, x_10_4_U, x_85, cb_ri, cb_rl, cb_rv, cb_th, cb_ite, ps_s, ps_n, u_274_0, u_274_12, u_274_13, u_274_51, u_274_52, u_274_59, na, nz, Int.reduceEq, Int.reduceLT, Int.reduceLE, reduceIte, Int.reduceAdd, Int.reduceSub, Int.reduceMul, Int.reduceNeg, Int.reduceToNat, Bool.false_eq_true, eq_self, if_pos, if_neg]
    have main := loop_any (F := fun i => run (lv + 3) 274 17 [aA 12 0, aI x, aI y, aI 1, aI (i : Int)] [] h) (N := 64) (P := fun i => decide (anyB (thB (h 187 0) (i : Int) x (-1)) N ≠ anyB (thB (h 187 0) (i : Int) y (-1)) N)) (r1 := ri 0 h) (r0 := ri 1 h) ?_ ?_
    · refine Eq.trans main ?_
      by_cases c2 : oKs (h 187 0) x N = oKs (h 187 0) y N
      · rw [decide_eq_true c2, if_neg]
        · rfl
        · intro z
          obtain ⟨i, q1, q2⟩ := anyB_iff.mp z
          exact of_decide_eq_true q2 (ox.mp c2 i q1)
      · rw [decide_eq_false c2, if_pos]
        · rfl
        · apply Classical.byContradiction
          intro z
          refine c2 (ox.mpr (fun j hj => Classical.byContradiction (fun z2 => z (anyB_iff.mpr ⟨j, hj, decide_eq_true z2⟩))))
    · intro i hi
      have a1 := isThere_c lv N (i : Int) x (-1) h h4 hN
      have a2 := isThere_c lv N (i : Int) y (-1) h h4 hN
      show run _ _ _ _ _ _ = if _ then _ else run _ _ _ _ _ _
      rw [hd_274_17]
      cases hx : anyB (thB (h 187 0) (i : Int) x (-1)) N <;> cases hy : anyB (thB (h 187 0) (i : Int) y (-1)) N <;> rw [hx] at a1 <;> rw [hy] at a2
      · rw [if_neg (by decide)]
        simp (disch := omega) only [x_6_0, x_4_1, x_79_2_12_d0, x_79_2_12_d1, x_79_2_12_d2, x_79_2_12_d3, x_79_2_12_d4, x_68, x_1, x_60, x_61, x_7_3_I, x_7_3_A, x_7_3_U, x_7_4_I, x_7_4_A, x_7_4_U, x_4_4, x_65, x_4_3, x_79_4_12_d0, x_79_4_12_d1, x_79_4_12_d2, x_79_4_12_d3, x_79_4_12_d4, x_4_2, x_63, x_10_4_I, x_10_4_A, x_10_4_U, x_85, cb_ri, cb_rl, cb_rv, cb_th, cb_ite, ps_s, ps_n, u_274_0, u_274_12, u_274_13, u_274_51, u_274_52, u_274_59, a1, a2, Int.reduceEq, Int.reduceLT, Int.reduceLE, reduceIte, Int.reduceAdd, Int.reduceSub, Int.reduceMul, Int.reduceNeg, Int.reduceToNat, Bool.false_eq_true, eq_self, if_pos, if_neg, ci, w32_id]
      · rw [if_pos (by decide)]
        simp (disch := omega) only [x_6_0, x_4_1, x_79_2_12_d0, x_79_2_12_d1, x_79_2_12_d2, x_79_2_12_d3, x_79_2_12_d4, x_68, x_1, x_60, x_61, x_7_3_I, x_7_3_A, x_7_3_U, x_7_4_I, x_7_4_A, x_7_4_U, x_4_4, x_65, x_4_3, x_79_4_12_d0, x_79_4_12_d1, x_79_4_12_d2, x_79_4_12_d3, x_79_4_12_d4, x_4_2, x_63, x_10_4_I, x_10_4_A, x_10_4_U, x_85, cb_ri, cb_rl, cb_rv, cb_th, cb_ite, ps_s, ps_n, u_274_0, u_274_12, u_274_13, u_274_51, u_274_52, u_274_59, a1, a2, Int.reduceEq, Int.reduceLT, Int.reduceLE, reduceIte, Int.reduceAdd, Int.reduceSub, Int.reduceMul, Int.reduceNeg, Int.reduceToNat, Bool.false_eq_true, eq_self, if_pos, if_neg, ci, w32_id]
        rw [hd_274_17]
        by_cases d2 : i + 1 < 64
        · simp (disch := omega) only [x_6_0, x_4_1, x_79_2_12_d0, x_79_2_12_d1, x_79_2_12_d2, x_79_2_12_d3, x_79_2_12_d4, x_68, x_1, x_60, x_61, x_7_3_I, x_7_3_A, x_7_3_U, x_7_4_I, x_7_4_A, x_7_4_U, x_4_4, x_65, x_4_3, x_79_4_12_d0, x_79_4_12_d1, x_79_4_12_d2, x_79_4_12_d3, x_79_4_12_d4, x_4_2, x_63, x_10_4_I, x_10_4_A, x_10_4_U, x_85, cb_ri, cb_rl, cb_rv, cb_th, cb_ite, ps_s, ps_n, u_274_0, u_274_12, u_274_13, u_274_51, u_274_52, u_274_59, Int.reduceEq, Int.reduceLT, Int.reduceLE, reduceIte, Int.reduceAdd, Int.reduceSub, Int.reduceMul, Int.reduceNeg, Int.reduceToNat, Bool.false_eq_true, eq_self, if_pos, if_neg]
        · simp (disch := omega) only [x_6_0, x_4_1, x_79_2_12_d0, x_79_2_12_d1, x_79_2_12_d2, x_79_2_12_d3, x_79_2_12_d4, x_68, x_1, x_60, x_61, x_7_3_I, x_7_3_A, x_7_3_U, x_7_4_I, x_7_4_A, x_7_4_U, x_4_4, x_65, x_4_3, x_79_4_12_d0, x_79_4_12_d1, x_79_4_12_d2, x_79_4_12_d3, x_79_4_12_d4, x_4_2, x_63, x_10_4_I, x_10_4_A, x_10_4_U, x_85, cb_ri, cb_rl, cb_rv, cb_th, cb_ite, ps_s, ps_n, u_274_0, u_274_12, u_274_13, u_274_51, u_274_52, u_274_59, Int.reduceEq, Int.reduceLT, Int.reduceLE, reduceIte, Int.reduceAdd, Int.reduceSub, Int.reduceMul, Int.reduceNeg, Int.reduceToNat, Bool.false_eq_true, eq_self, if_pos, if_neg]
      · rw [if_pos (by decide)]
        simp (disch := omega) only [x_6_0, x_4_1, x_79_2_12_d0, x_79_2_12_d1, x_79_2_12_d2, x_79_2_12_d3, x_79_2_12_d4, x_68, x_1, x_60, x_61, x_7_3_I, x_7_3_A, x_7_3_U, x_7_4_I, x_7_4_A, x_7_4_U, x_4_4, x_65, x_4_3, x_79_4_12_d0, x_79_4_12_d1, x_79_4_12_d2, x_79_4_12_d3, x_79_4_12_d4, x_4_2, x_63, x_10_4_I, x_10_4_A, x_10_4_U, x_85, cb_ri, cb_rl, cb_rv, cb_th, cb_ite, ps_s, ps_n, u_274_0, u_274_12, u_274_13, u_274_51, u_274_52, u_274_59, a1, a2, Int.reduceEq, Int.reduceLT, Int.reduceLE, reduceIte, Int.reduceAdd, Int.reduceSub, Int.reduceMul, Int.reduceNeg, Int.reduceToNat, Bool.false_eq_true, eq_self, if_pos, if_neg, ci, w32_id]
        rw [hd_274_17]
        by_cases d2 : i + 1 < 64
        · simp (disch := omega) only [x_6_0, x_4_1, x_79_2_12_d0, x_79_2_12_d1, x_79_2_12_d2, x_79_2_12_d3, x_79_2_12_d4, x_68, x_1, x_60, x_61, x_7_3_I, x_7_3_A, x_7_3_U, x_7_4_I, x_7_4_A, x_7_4_U, x_4_4, x_65, x_4_3, x_79_4_12_d0, x_79_4_12_d1, x_79_4_12_d2, x_79_4_12_d3, x_79_4_12_d4, x_4_2, x_63, x_10_4_I, x_10_4_A, x_10_4_U, x_85, cb_ri, cb_rl, cb_rv, cb_th, cb_ite, ps_s, ps_n, u_274_0, u_274_12, u_274_13, u_274_51, u_274_52, u_274_59, Int.reduceEq, Int.reduceLT, Int.reduceLE, reduceIte, Int.reduceAdd, Int.reduceSub, Int.reduceMul, Int.reduceNeg, Int.reduceToNat, Bool.false_eq_true, eq_self, if_pos, if_neg]
        · simp (disch := omega) only [x_6_0, x_4_1, x_79_2_12_d0, x_79_2_12_d1, x_79_2_12_d2, x_79_2_12_d3, x_79_2_12_d4, x_68, x_1, x_60, x_61, x_7_3_I, x_7_3_A, x_7_3_U, x_7_4_I, x_7_4_A, x_7_4_U, x_4_4, x_65, x_4_3, x_79_4_12_d0, x_79_4_12_d1, x_79_4_12_d2, x_79_4_12_d3, x_79_4_12_d4, x_4_2, x_63, x_10_4_I, x_10_4_A, x_10_4_U, x_85, cb_ri, cb_rl, cb_rv, cb_th, cb_ite, ps_s, ps_n, u_274_0, u_274_12, u_274_13, u_274_51, u_274_52, u_274_59, Int.reduceEq, Int.reduceLT, Int.reduceLE, reduceIte, Int.reduceAdd, Int.reduceSub, Int.reduceMul, Int.reduceNeg, Int.reduceToNat, Bool.false_eq_true, eq_self, if_pos, if_neg]
      · rw [if_neg (by decide)]
        simp (disch := omega) only [x_6_0, x_4_1, x_79_2_12_d0, x_79_2_12_d1, x_79_2_12_d2, x_79_2_12_d3, x_79_2_12_d4, x_68, x_1, x_60, x_61, x_7_3_I, x_7_3_A, x_7_3_U, x_7_4_I, x_7_4_A, x_7_4_U, x_4_4, x_65, x_4_3, x_79_4_12_d0, x_79_4_12_d1, x_79_4_12_d2, x_79_4_12_d3, x_79_4_12_d4, x_4_2, x_63, x_10_4_I, x_10_4_A, x_10_4_U, x_85, cb_ri, cb_rl, cb_rv, cb_th, cb_ite, ps_s, ps_n, u_274_0, u_274_12, u_274_13, u_274_51, u_274_52, u_274_59, a1, a2, Int.reduceEq, Int.reduceLT, Int.reduceLE, reduceIte, Int.reduceAdd, Int.reduceSub, Int.reduceMul, Int.reduceNeg, Int.reduceToNat, Bool.false_eq_true, eq_self, if_pos, if_neg, ci, w32_id]
    · show run _ _ _ _ _ _ = _
      rw [hd_274_17]
      simp (disch := omega) only [x_6_0, x_4_1, x_79_2_12_d0, x_79_2_12_d1, x_79_2_12_d2, x_79_2_12_d3, x_79_2_12_d4, x_68, x_1, x_60, x_61, x_7_3_I, x_7_3_A, x_7_3_U, x_7_4_I, x_7_4_A, x_7_4_U, x_4_4, x_65, x_4_3, x_79_4_12_d0, x_79_4_12_d1, x_79_4_12_d2, x_79_4_12_d3, x_79_4_12_d4, x_4_2, x_63, x_10_4_I, x_10_4_A, x_10_4_U, x_85, cb_ri, cb_rl, cb_rv, cb_th, cb_ite, ps_s, ps_n, u_274_0, u_274_12, u_274_13, u_274_51, u_274_52, u_274_59, Int.reduceEq, Int.reduceLT, Int.reduceLE, reduceIte, Int.reduceAdd, Int.reduceSub, Int.reduceMul, Int.reduceNeg, Int.reduceToNat, Bool.false_eq_true, eq_self, if_pos, if_neg]
theorem ag_like (lc lr H N : Nat) (h : Hp) (I : INV h H N) : AGp (fun h => cl (lc + 80) 121 [aA 11 0] h) (fun h => cl (lr + 80) 275 [aA 12 0] h) h := by
  have hk := GN_key I.1.2.1.2.1
  have sb := sumN_b (f := fun x => cnt (lkB (h 187 0) N x) 12) (K := 12) (fun i => cnt_le _ _)
  refine AGp_q I (v := ((sumN (fun x => cnt (lkB (h 187 0) N x) 12) 12 : Nat) : Int)) ⟨h, ?_, Sm_r _ _⟩ (fun g s J => ⟨hset g 186 0 0 0, ?_, rsc_186 g 0⟩)
  · show cl (lc + 80) _ _ _ = _
    rw [in_121]
    simp (disch := omega) only [x_1, x_7_1_I, x_7_1_A, x_7_1_U, x_7_2_I, x_7_2_A, x_7_2_U, x_61, x_4_2, x_65, x_6_0, x_35_0, x_79_2_7_d0, x_79_2_7_d1, x_79_2_7_d2, x_79_2_7_d3, x_79_2_7_d4, x_8_3_I, x_8_3_A, x_8_3_U, x_11, x_7_5_I, x_7_5_A, x_7_5_U, x_5_3, x_2, x_32, x_68, x_4_5, x_69, x_10_1_I, x_10_1_A, x_10_1_U, x_10_5_I, x_10_5_A, x_10_5_U, x_60, x_10_2_I, x_10_2_A, x_10_2_U, x_4_1, x_82, cb_ri, cb_rl, cb_rv, cb_th, cb_ite, ps_s, ps_n, u_121_0, u_121_54, u_121_60, u_121_66]
    refine loop_g (F := fun x (v : AV × AV) => run (lc + 79) 121 4 [aA 11 0, aI ((sumN (fun x => cnt (lkB (h 187 0) N x) 12) x : Nat) : Int), aI (x : Int), v.1, none, v.2] [] h) (N := 12) ?_ ?_ (none, none)
    · intro x v hx
      have ka := keysAt_c (lc + 77) 0 N (h 187 0) (x : Int) h I.1.1.2.1 hk
      have s1 := sb x
      have lx := oKs_lt (M := h 187 0) (b := (x : Int)) hk
      show ∃ g' : AV × AV, run _ _ _ _ _ _ = run _ _ _ [aA 11 0, aI ((sumN (fun x => cnt (lkB (h 187 0) N x) 12) x + cnt (lkB (h 187 0) N x) 12 : Nat) : Int), _, _, _, _] _ _
      generalize sumN (fun x => cnt (lkB (h 187 0) N x) 12) x = sm at s1 ⊢
      by_cases c0 : oKs (h 187 0) (x : Int) N = 0
      · refine ⟨(aJ (kJ (oKs (h 187 0) (x : Int) N)), aI ((x + 1 : Nat) : Int)), ?_⟩
        have z := jc_z c0
        rw [lk_n _ _ _ c0, hd_121_4]
        simp (disch := omega) only [x_1, x_7_1_I, x_7_1_A, x_7_1_U, x_7_2_I, x_7_2_A, x_7_2_U, x_61, x_4_2, x_65, x_6_0, x_35_0, x_79_2_7_d0, x_79_2_7_d1, x_79_2_7_d2, x_79_2_7_d3, x_79_2_7_d4, x_8_3_I, x_8_3_A, x_8_3_U, x_11, x_7_5_I, x_7_5_A, x_7_5_U, x_5_3, x_2, x_32, x_68, x_4_5, x_69, x_10_1_I, x_10_1_A, x_10_1_U, x_10_5_I, x_10_5_A, x_10_5_U, x_60, x_10_2_I, x_10_2_A, x_10_2_U, x_4_1, x_82, cb_ri, cb_rl, cb_rv, cb_th, cb_ite, ps_s, ps_n, u_121_0, u_121_54, u_121_60, u_121_66, ka, Int.reduceEq, Int.reduceLT, Int.reduceLE, reduceIte, Int.reduceAdd, Int.reduceSub, Int.reduceMul, Int.reduceNeg, Int.reduceToNat, Bool.false_eq_true, eq_self, if_pos, if_neg, ci, w32_id]
        rw [hd_121_24]
        simp (disch := omega) only [x_1, x_7_1_I, x_7_1_A, x_7_1_U, x_7_2_I, x_7_2_A, x_7_2_U, x_61, x_4_2, x_65, x_6_0, x_35_0, x_79_2_7_d0, x_79_2_7_d1, x_79_2_7_d2, x_79_2_7_d3, x_79_2_7_d4, x_8_3_I, x_8_3_A, x_8_3_U, x_11, x_7_5_I, x_7_5_A, x_7_5_U, x_5_3, x_2, x_32, x_68, x_4_5, x_69, x_10_1_I, x_10_1_A, x_10_1_U, x_10_5_I, x_10_5_A, x_10_5_U, x_60, x_10_2_I, x_10_2_A, x_10_2_U, x_4_1, x_82, cb_ri, cb_rl, cb_rv, cb_th, cb_ite, ps_s, ps_n, u_121_0, u_121_54, u_121_60, u_121_66, z, Int.reduceEq, Int.reduceLT, Int.reduceLE, reduceIte, Int.reduceAdd, Int.reduceSub, Int.reduceMul, Int.reduceNeg, Int.reduceToNat, Bool.false_eq_true, eq_self, if_pos, if_neg, ci, w32_id, Nat.add_zero]
      · refine ⟨(aJ (kJ (oKs (h 187 0) (x : Int) N)), aI ((12 : Nat) : Int)), ?_⟩
        have z := jc_n lx (by omega)
        rw [hd_121_4]
        simp (disch := omega) only [x_1, x_7_1_I, x_7_1_A, x_7_1_U, x_7_2_I, x_7_2_A, x_7_2_U, x_61, x_4_2, x_65, x_6_0, x_35_0, x_79_2_7_d0, x_79_2_7_d1, x_79_2_7_d2, x_79_2_7_d3, x_79_2_7_d4, x_8_3_I, x_8_3_A, x_8_3_U, x_11, x_7_5_I, x_7_5_A, x_7_5_U, x_5_3, x_2, x_32, x_68, x_4_5, x_69, x_10_1_I, x_10_1_A, x_10_1_U, x_10_5_I, x_10_5_A, x_10_5_U, x_60, x_10_2_I, x_10_2_A, x_10_2_U, x_4_1, x_82, cb_ri, cb_rl, cb_rv, cb_th, cb_ite, ps_s, ps_n, u_121_0, u_121_54, u_121_60, u_121_66, ka, Int.reduceEq, Int.reduceLT, Int.reduceLE, reduceIte, Int.reduceAdd, Int.reduceSub, Int.reduceMul, Int.reduceNeg, Int.reduceToNat, Bool.false_eq_true, eq_self, if_pos, if_neg, ci, w32_id]
        have main := loop_up (F := fun y => run (lc + 79) 121 24 [aA 11 0, aI ((sm + cnt (lkB (h 187 0) N x) (x + 1 + y) : Nat) : Int), aI (x : Int), aJ (kJ (oKs (h 187 0) (x : Int) N)), none, aI ((x + 1 + y : Nat) : Int)] [] h) (N := 12 - (x + 1)) (r := run (lc + 79) 121 4 [aA 11 0, aI ((sm + cnt (lkB (h 187 0) N x) 12 : Nat) : Int), aI ((x + 1 : Nat) : Int), aJ (kJ (oKs (h 187 0) (x : Int) N)), none, aI ((12 : Nat) : Int)] [] h) ?_ ?_ 0 (by omega)
        · simp only [Nat.add_zero, lk_0 (h 187 0) N x (x + 1) (Nat.le_refl _)] at main
          exact main
        · intro y' hy'
          have c1 := cnt_le (lkB (h 187 0) N x) (x + 1 + y')
          show run _ _ _ _ _ _ = run _ _ _ [_, aI ((sm + (cnt (lkB (h 187 0) N x) (x + 1 + y') + if lkB (h 187 0) N x (x + 1 + y') = true then 1 else 0) : Nat) : Int), _, _, _, aI ((x + 1 + y' + 1 : Nat) : Int)] _ _
          obtain ⟨y, hy⟩ : ∃ y, x + 1 + y' = y := ⟨_, rfl⟩
          rw [hy] at c1 ⊢
          have kb := keysAt_c (lc + 77) 0 N (h 187 0) (y : Int) h I.1.1.2.1 hk
          have ly := oKs_lt (M := h 187 0) (b := (y : Int)) hk
          rw [hd_121_24]
          by_cases d : oKs (h 187 0) (y : Int) N = oKs (h 187 0) (x : Int) N
          · have z2 := jc_eq d
            have p : lkB (h 187 0) N x y = true := by unfold lkB; rw [decide_eq_true (by omega), decide_eq_true c0, decide_eq_true d.symm]; rfl
            rw [if_pos p]
            simp (disch := omega) only [x_1, x_7_1_I, x_7_1_A, x_7_1_U, x_7_2_I, x_7_2_A, x_7_2_U, x_61, x_4_2, x_65, x_6_0, x_35_0, x_79_2_7_d0, x_79_2_7_d1, x_79_2_7_d2, x_79_2_7_d3, x_79_2_7_d4, x_8_3_I, x_8_3_A, x_8_3_U, x_11, x_7_5_I, x_7_5_A, x_7_5_U, x_5_3, x_2, x_32, x_68, x_4_5, x_69, x_10_1_I, x_10_1_A, x_10_1_U, x_10_5_I, x_10_5_A, x_10_5_U, x_60, x_10_2_I, x_10_2_A, x_10_2_U, x_4_1, x_82, cb_ri, cb_rl, cb_rv, cb_th, cb_ite, ps_s, ps_n, u_121_0, u_121_54, u_121_60, u_121_66, kb, z, z2, Int.reduceEq, Int.reduceLT, Int.reduceLE, reduceIte, Int.reduceAdd, Int.reduceSub, Int.reduceMul, Int.reduceNeg, Int.reduceToNat, Bool.false_eq_true, eq_self, if_pos, if_neg, ci, w32_id, Nat.add_assoc]
          · have z2 := jc_ne ly lx d
            have p : ¬ lkB (h 187 0) N x y = true := by unfold lkB; rw [decide_eq_false (show ¬ oKs (h 187 0) (x : Int) N = oKs (h 187 0) (y : Int) N from fun q => d q.symm)]; simp
            rw [if_neg p]
            simp (disch := omega) only [x_1, x_7_1_I, x_7_1_A, x_7_1_U, x_7_2_I, x_7_2_A, x_7_2_U, x_61, x_4_2, x_65, x_6_0, x_35_0, x_79_2_7_d0, x_79_2_7_d1, x_79_2_7_d2, x_79_2_7_d3, x_79_2_7_d4, x_8_3_I, x_8_3_A, x_8_3_U, x_11, x_7_5_I, x_7_5_A, x_7_5_U, x_5_3, x_2, x_32, x_68, x_4_5, x_69, x_10_1_I, x_10_1_A, x_10_1_U, x_10_5_I, x_10_5_A, x_10_5_U, x_60, x_10_2_I, x_10_2_A, x_10_2_U, x_4_1, x_82, cb_ri, cb_rl, cb_rv, cb_th, cb_ite, ps_s, ps_n, u_121_0, u_121_54, u_121_60, u_121_66, kb, z, z2, Int.reduceEq, Int.reduceLT, Int.reduceLE, reduceIte, Int.reduceAdd, Int.reduceSub, Int.reduceMul, Int.reduceNeg, Int.reduceToNat, Bool.false_eq_true, eq_self, if_pos, if_neg, ci, w32_id, Nat.add_zero]
        · show run _ _ _ _ _ _ = _
          rw [show x + 1 + (12 - (x + 1)) = 12 by omega, hd_121_24]
          simp (disch := omega) only [x_1, x_7_1_I, x_7_1_A, x_7_1_U, x_7_2_I, x_7_2_A, x_7_2_U, x_61, x_4_2, x_65, x_6_0, x_35_0, x_79_2_7_d0, x_79_2_7_d1, x_79_2_7_d2, x_79_2_7_d3, x_79_2_7_d4, x_8_3_I, x_8_3_A, x_8_3_U, x_11, x_7_5_I, x_7_5_A, x_7_5_U, x_5_3, x_2, x_32, x_68, x_4_5, x_69, x_10_1_I, x_10_1_A, x_10_1_U, x_10_5_I, x_10_5_A, x_10_5_U, x_60, x_10_2_I, x_10_2_A, x_10_2_U, x_4_1, x_82, cb_ri, cb_rl, cb_rv, cb_th, cb_ite, ps_s, ps_n, u_121_0, u_121_54, u_121_60, u_121_66, z, Int.reduceEq, Int.reduceLT, Int.reduceLE, reduceIte, Int.reduceAdd, Int.reduceSub, Int.reduceMul, Int.reduceNeg, Int.reduceToNat, Bool.false_eq_true, eq_self, if_pos, if_neg, ci, w32_id]
    · intro v
      show run _ _ _ _ _ _ = _
      rw [hd_121_4]
      simp (disch := omega) only [x_1, x_7_1_I, x_7_1_A, x_7_1_U, x_7_2_I, x_7_2_A, x_7_2_U, x_61, x_4_2, x_65, x_6_0, x_35_0, x_79_2_7_d0, x_79_2_7_d1, x_79_2_7_d2, x_79_2_7_d3, x_79_2_7_d4, x_8_3_I, x_8_3_A, x_8_3_U, x_11, x_7_5_I, x_7_5_A, x_7_5_U, x_5_3, x_2, x_32, x_68, x_4_5, x_69, x_10_1_I, x_10_1_A, x_10_1_U, x_10_5_I, x_10_5_A, x_10_5_U, x_60, x_10_2_I, x_10_2_A, x_10_2_U, x_4_1, x_82, cb_ri, cb_rl, cb_rv, cb_th, cb_ite, ps_s, ps_n, u_121_0, u_121_54, u_121_60, u_121_66, Int.reduceEq, Int.reduceLT, Int.reduceLE, reduceIte, Int.reduceAdd, Int.reduceSub, Int.reduceMul, Int.reduceNeg, Int.reduceToNat, Bool.false_eq_true, eq_self, if_pos, if_neg]
  · show cl (lr + 80) _ _ _ = _
    have g7 : hset g 186 0 0 0 187 0 = h 187 0 := by rw [h186_m, Sm_187 s scr_187]
    rw [in_275]
    simp (disch := omega) only [x_6_0, x_1, x_36, x_7_1_I, x_7_1_A, x_7_1_U, x_7_2_I, x_7_2_A, x_7_2_U, x_61, x_4_2, x_65, x_11, x_7_3_I, x_7_3_A, x_7_3_U, x_4_3, x_4_1, x_79_3_12_d0, x_79_3_12_d1, x_79_3_12_d2, x_79_3_12_d3, x_79_3_12_d4, x_68, x_60, x_10_3_I, x_10_3_A, x_10_3_U, x_10_2_I, x_10_2_A, x_10_2_U, x_82, cb_ri, cb_rl, cb_rv, cb_th, cb_ite, ps_s, ps_n, u_275_0, u_275_39, u_275_40, u_275_48, u_275_54]
    refine loop_g (F := fun x (v : AV) => run (lr + 79) 275 9 [aA 12 0, aI ((sumN (fun x => cnt (lkB (h 187 0) N x) 12) x : Nat) : Int), aI (x : Int), v] [] (hset g 186 0 0 0)) (N := 12) ?_ ?_ none
    · intro x v hx
      refine ⟨aI ((12 : Nat) : Int), ?_⟩
      have s1 := sb x
      show run _ _ _ _ _ _ = run _ _ _ [aA 12 0, aI ((sumN (fun x => cnt (lkB (h 187 0) N x) 12) x + cnt (lkB (h 187 0) N x) 12 : Nat) : Int), _, _] _ _
      generalize sumN (fun x => cnt (lkB (h 187 0) N x) 12) x = sm at s1 ⊢
      rw [hd_275_9]
      simp (disch := omega) only [x_6_0, x_1, x_36, x_7_1_I, x_7_1_A, x_7_1_U, x_7_2_I, x_7_2_A, x_7_2_U, x_61, x_4_2, x_65, x_11, x_7_3_I, x_7_3_A, x_7_3_U, x_4_3, x_4_1, x_79_3_12_d0, x_79_3_12_d1, x_79_3_12_d2, x_79_3_12_d3, x_79_3_12_d4, x_68, x_60, x_10_3_I, x_10_3_A, x_10_3_U, x_10_2_I, x_10_2_A, x_10_2_U, x_82, cb_ri, cb_rl, cb_rv, cb_th, cb_ite, ps_s, ps_n, u_275_0, u_275_39, u_275_40, u_275_48, u_275_54, Int.reduceEq, Int.reduceLT, Int.reduceLE, reduceIte, Int.reduceAdd, Int.reduceSub, Int.reduceMul, Int.reduceNeg, Int.reduceToNat, Bool.false_eq_true, eq_self, if_pos, if_neg, ci, w32_id]
      have main := loop_up (F := fun y => run (lr + 79) 275 19 [aA 12 0, aI ((sm + cnt (lkB (h 187 0) N x) (x + 1 + y) : Nat) : Int), aI (x : Int), aI ((x + 1 + y : Nat) : Int)] [] (hset g 186 0 0 0)) (N := 12 - (x + 1)) (r := run (lr + 79) 275 9 [aA 12 0, aI ((sm + cnt (lkB (h 187 0) N x) 12 : Nat) : Int), aI ((x + 1 : Nat) : Int), aI ((12 : Nat) : Int)] [] (hset g 186 0 0 0)) ?_ ?_ 0 (by omega)
      · simp only [Nat.add_zero, lk_0 (h 187 0) N x (x + 1) (Nat.le_refl _)] at main
        exact main
      · intro y' hy'
        have c1 := cnt_le (lkB (h 187 0) N x) (x + 1 + y')
        show run _ _ _ _ _ _ = run _ _ _ [_, aI ((sm + (cnt (lkB (h 187 0) N x) (x + 1 + y') + if lkB (h 187 0) N x (x + 1 + y') = true then 1 else 0) : Nat) : Int), _, aI ((x + 1 + y' + 1 : Nat) : Int)] _ _
        obtain ⟨y, hy⟩ : ∃ y, x + 1 + y' = y := ⟨_, rfl⟩
        rw [hy] at c1 ⊢
        have al := areLike_m (lr + 75) N (x : Int) (y : Int) (hset g 186 0 0 0) (by rw [g7]; exact I.1.2.1.2.1.1) I.1.2.1.2.1.2.1 (by rw [g7]; exact hk)
        rw [g7] at al
        have el : lkB (h 187 0) N x y = (decide (oKs (h 187 0) (x : Int) N ≠ 0) && decide (oKs (h 187 0) (x : Int) N = oKs (h 187 0) (y : Int) N)) := by unfold lkB; rw [decide_eq_true (show x < y by omega), Bool.true_and]
        rw [← el] at al
        rw [hd_275_19]
        cases hb : lkB (h 187 0) N x y with
        | true =>
          rw [hb] at al
          have e1 : boI true = 1 := rfl
          rw [if_pos rfl]
          simp (disch := omega) only [x_6_0, x_1, x_36, x_7_1_I, x_7_1_A, x_7_1_U, x_7_2_I, x_7_2_A, x_7_2_U, x_61, x_4_2, x_65, x_11, x_7_3_I, x_7_3_A, x_7_3_U, x_4_3, x_4_1, x_79_3_12_d0, x_79_3_12_d1, x_79_3_12_d2, x_79_3_12_d3, x_79_3_12_d4, x_68, x_60, x_10_3_I, x_10_3_A, x_10_3_U, x_10_2_I, x_10_2_A, x_10_2_U, x_82, cb_ri, cb_rl, cb_rv, cb_th, cb_ite, ps_s, ps_n, u_275_0, u_275_39, u_275_40, u_275_48, u_275_54, al, e1, Int.reduceEq, Int.reduceLT, Int.reduceLE, reduceIte, Int.reduceAdd, Int.reduceSub, Int.reduceMul, Int.reduceNeg, Int.reduceToNat, Bool.false_eq_true, eq_self, if_pos, if_neg, ci, w32_id, Nat.add_assoc]
        | false =>
          rw [hb] at al
          have e1 : boI false = 0 := rfl
          rw [if_neg (by decide)]
          simp (disch := omega) only [x_6_0, x_1, x_36, x_7_1_I, x_7_1_A, x_7_1_U, x_7_2_I, x_7_2_A, x_7_2_U, x_61, x_4_2, x_65, x_11, x_7_3_I, x_7_3_A, x_7_3_U, x_4_3, x_4_1, x_79_3_12_d0, x_79_3_12_d1, x_79_3_12_d2, x_79_3_12_d3, x_79_3_12_d4, x_68, x_60, x_10_3_I, x_10_3_A, x_10_3_U, x_10_2_I, x_10_2_A, x_10_2_U, x_82, cb_ri, cb_rl, cb_rv, cb_th, cb_ite, ps_s, ps_n, u_275_0, u_275_39, u_275_40, u_275_48, u_275_54, al, e1, Int.reduceEq, Int.reduceLT, Int.reduceLE, reduceIte, Int.reduceAdd, Int.reduceSub, Int.reduceMul, Int.reduceNeg, Int.reduceToNat, Bool.false_eq_true, eq_self, if_pos, if_neg, ci, w32_id, Nat.add_zero, Int.add_zero]
      · show run _ _ _ _ _ _ = _
        rw [show x + 1 + (12 - (x + 1)) = 12 by omega, hd_275_19]
        simp (disch := omega) only [x_6_0, x_1, x_36, x_7_1_I, x_7_1_A, x_7_1_U, x_7_2_I, x_7_2_A, x_7_2_U, x_61, x_4_2, x_65, x_11, x_7_3_I, x_7_3_A, x_7_3_U, x_4_3, x_4_1, x_79_3_12_d0, x_79_3_12_d1, x_79_3_12_d2, x_79_3_12_d3, x_79_3_12_d4, x_68, x_60, x_10_3_I, x_10_3_A, x_10_3_U, x_10_2_I, x_10_2_A, x_10_2_U, x_82, cb_ri, cb_rl, cb_rv, cb_th, cb_ite, ps_s, ps_n, u_275_0, u_275_39, u_275_40, u_275_48, u_275_54, Int.reduceEq, Int.reduceLT, Int.reduceLE, reduceIte, Int.reduceAdd, Int.reduceSub, Int.reduceMul, Int.reduceNeg, Int.reduceToNat, Bool.false_eq_true, eq_self, if_pos, if_neg, ci, w32_id]
    · intro v
      show run _ _ _ _ _ _ = _
      rw [hd_275_9]
      simp (disch := omega) only [x_6_0, x_1, x_36, x_7_1_I, x_7_1_A, x_7_1_U, x_7_2_I, x_7_2_A, x_7_2_U, x_61, x_4_2, x_65, x_11, x_7_3_I, x_7_3_A, x_7_3_U, x_4_3, x_4_1, x_79_3_12_d0, x_79_3_12_d1, x_79_3_12_d2, x_79_3_12_d3, x_79_3_12_d4, x_68, x_60, x_10_3_I, x_10_3_A, x_10_3_U, x_10_2_I, x_10_2_A, x_10_2_U, x_82, cb_ri, cb_rl, cb_rv, cb_th, cb_ite, ps_s, ps_n, u_275_0, u_275_39, u_275_40, u_275_48, u_275_54, Int.reduceEq, Int.reduceLT, Int.reduceLE, reduceIte, Int.reduceAdd, Int.reduceSub, Int.reduceMul, Int.reduceNeg, Int.reduceToNat, Bool.false_eq_true, eq_self, if_pos, if_neg]
