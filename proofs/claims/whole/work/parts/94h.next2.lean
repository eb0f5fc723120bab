/-! what comes next, whole -/
theorem pl_0 (T t : Nat → Int) (e s : Nat) : ∀ n, n ≤ s → bsN (plB T t e s) n = 0 := by
  intro n
  induction n with
  | zero => intro _; rfl
  | succ n ih =>
    intro hn
    rw [bs_f _ (by unfold plB; rw [decide_eq_false (by omega)]; rfl)]
    exact ih (by omega)
theorem places_c (lv e s L : Nat) (T t : Nat → Int) (h : Hp) (h3 : h 183 0 0 = (L : Int)) (hL : L ≤ 12) (hT : ∀ j, j < L → h 182 0 j = T j) (ht : ∀ j, j < 400 → h 148 0 j = t j) (hs : s ≤ e) (he : e ≤ 20) (hsL : s ≤ L) : cl (lv + 1) 159 [aA 11 0, aI (e : Int), aI (s : Int)] h = ri ((bsN (plB T t e s) L : Nat) : Int) h := by
  rw [in_159]
  simp (disch := omega) only [x_1, x_7_3_I, x_7_3_A, x_7_3_U, x_4_2, x_7_4_I, x_7_4_A, x_7_4_U, x_61, x_4_4, x_6_0, x_33, x_65, x_7_5_I, x_7_5_A, x_7_5_U, x_7_6_I, x_7_6_A, x_7_6_U, x_4_6, x_66, x_4_5, x_68, x_34, x_12, x_38_148, x_38_182, x_35_0, x_4_1, x_63, x_60, x_10_6_I, x_10_6_A, x_10_6_U, x_4_3, x_20, x_18, x_10_4_I, x_10_4_A, x_10_4_U, x_82, u_159_0, u_159_60, u_159_61, u_159_69, u_159_81, u_159_87]
  have main := loop_g (F := fun p (v : AV × AV) => run lv 159 5 [aA 11 0, aI (e : Int), aI (s : Int), aI ((bsN (plB T t e s) (s + p) : Nat) : Int), aI ((s + p : Nat) : Int), v.1, v.2] [] h) (N := L - s) (r := ri ((bsN (plB T t e s) L : Nat) : Int) h) ?_ ?_ (none, none)
  · simp only [Nat.add_zero, pl_0 T t e s s (Nat.le_refl _)] at main
    exact main
  · intro p' v hp'
    obtain ⟨p, hp⟩ : ∃ p, s + p' = p := ⟨_, rfl⟩
    show ∃ g' : AV × AV, run _ _ _ _ _ _ = run _ _ _ [_, _, _, aI ((bsN (plB T t e s) (s + p' + 1) : Nat) : Int), aI ((s + p' + 1 : Nat) : Int), _, _] _ _
    rw [hp]
    have hsp : s ≤ p := by omega
    have hpL : p < L := by omega
    have main : ∃ x : AV, run lv 159 20 [aA 11 0, aI (e : Int), aI (s : Int), aI ((bsN (plB T t e s) p : Nat) : Int), aI (p : Int), aI 1, aI 1] [] h = run lv 159 69 [aA 11 0, aI (e : Int), aI (s : Int), aI ((bsN (plB T t e s) p : Nat) : Int), aI (p : Int), aI (boI (plB T t e s p)), x] [] h := by
      unfold plB
      rw [decide_eq_true hsp, Bool.true_and]
      have lf := loop_f (F := fun i (_ : Unit) => run lv 159 20 [aA 11 0, aI (e : Int), aI (s : Int), aI ((bsN (plB T t e s) p : Nat) : Int), aI (p : Int), aI 1, aI ((i + 1 : Nat) : Int)] [] h) (N := s) (P := fun i => ! smP T t e p i) (r := fun i => run lv 159 69 [aA 11 0, aI (e : Int), aI (s : Int), aI ((bsN (plB T t e s) p : Nat) : Int), aI (p : Int), aI 0, aI ((i + 1 + 1 : Nat) : Int)] [] h) (d := run lv 159 69 [aA 11 0, aI (e : Int), aI (s : Int), aI ((bsN (plB T t e s) p : Nat) : Int), aI (p : Int), aI 1, aI ((s + 1 : Nat) : Int)] [] h) ?_ ?_ ()
      · rcases lf with ⟨i, q1, q2, -, q3⟩ | ⟨q1, q2⟩
        · have : ¬ allB (smP T t e p) s = true := fun z => by have := allB_iff.mp z i q1; rw [this] at q2; exact absurd q2 (by decide)
          rw [Bool.eq_false_iff.mpr this]
          exact ⟨_, q3⟩
        · have : allB (smP T t e p) s = true := allB_iff.mpr (fun i hi => by
            cases hb : smP T t e p i with
            | true => rfl
            | false => have := q1 i hi; rw [hb] at this; exact absurd this (by decide))
          rw [this]
          exact ⟨_, q2⟩
      · intro i _ hi
        refine ⟨(), ?_⟩
        have y1 := hT (p - (i + 1)) (by omega)
        have y2 := ht (e - (i + 1)) (by omega)
        have u1 : ((p : Int) - ((i + 1 : Nat) : Int)).toNat = p - (i + 1) := by omega
        have u2 : ((e : Int) - ((i + 1 : Nat) : Int)).toNat = e - (i + 1) := by omega
        show run _ _ _ _ _ _ = if _ then run _ _ _ _ _ _ else run _ _ _ _ _ _
        rw [hd_159_20]
        by_cases d : T (p - (i + 1)) = t (e - (i + 1))
        · have z : smP T t e p i = true := decide_eq_true d
          rw [z, if_neg (by decide)]
          simp (disch := omega) only [x_1, x_7_3_I, x_7_3_A, x_7_3_U, x_4_2, x_7_4_I, x_7_4_A, x_7_4_U, x_61, x_4_4, x_6_0, x_33, x_65, x_7_5_I, x_7_5_A, x_7_5_U, x_7_6_I, x_7_6_A, x_7_6_U, x_4_6, x_66, x_4_5, x_68, x_34, x_12, x_38_148, x_38_182, x_35_0, x_4_1, x_63, x_60, x_10_6_I, x_10_6_A, x_10_6_U, x_4_3, x_20, x_18, x_10_4_I, x_10_4_A, x_10_4_U, x_82, u_159_0, u_159_60, u_159_61, u_159_81, u_159_87, w32_id, u1, u2, y1, y2, d, Int.reduceEq, Int.reduceLT, Int.reduceLE, reduceIte, Int.reduceAdd, Int.reduceSub, Int.reduceMul, Int.reduceNeg, Int.reduceToNat, Bool.false_eq_true, eq_self, if_pos, if_neg, ci]
        · have z : smP T t e p i = false := decide_eq_false d
          rw [z, if_pos (by decide)]
          simp (disch := omega) only [x_1, x_7_3_I, x_7_3_A, x_7_3_U, x_4_2, x_7_4_I, x_7_4_A, x_7_4_U, x_61, x_4_4, x_6_0, x_33, x_65, x_7_5_I, x_7_5_A, x_7_5_U, x_7_6_I, x_7_6_A, x_7_6_U, x_4_6, x_66, x_4_5, x_68, x_34, x_12, x_38_148, x_38_182, x_35_0, x_4_1, x_63, x_60, x_10_6_I, x_10_6_A, x_10_6_U, x_4_3, x_20, x_18, x_10_4_I, x_10_4_A, x_10_4_U, x_82, u_159_0, u_159_60, u_159_61, u_159_81, u_159_87, w32_id, u1, u2, y1, y2, d, Int.reduceEq, Int.reduceLT, Int.reduceLE, reduceIte, Int.reduceAdd, Int.reduceSub, Int.reduceMul, Int.reduceNeg, Int.reduceToNat, Bool.false_eq_true, eq_self, if_pos, if_neg, ci]
          rw [hd_159_20]
          by_cases d2 : i + 1 + 1 ≤ s
          · simp (disch := omega) only [x_1, x_7_3_I, x_7_3_A, x_7_3_U, x_4_2, x_7_4_I, x_7_4_A, x_7_4_U, x_61, x_4_4, x_6_0, x_33, x_65, x_7_5_I, x_7_5_A, x_7_5_U, x_7_6_I, x_7_6_A, x_7_6_U, x_4_6, x_66, x_4_5, x_68, x_34, x_12, x_38_148, x_38_182, x_35_0, x_4_1, x_63, x_60, x_10_6_I, x_10_6_A, x_10_6_U, x_4_3, x_20, x_18, x_10_4_I, x_10_4_A, x_10_4_U, x_82, u_159_0, u_159_60, u_159_61, u_159_81, u_159_87, Int.reduceEq, Int.reduceLT, Int.reduceLE, reduceIte, Int.reduceAdd, Int.reduceSub, Int.reduceMul, Int.reduceNeg, Int.reduceToNat, Bool.false_eq_true, eq_self, if_pos, if_neg]
          · simp (disch := omega) only [x_1, x_7_3_I, x_7_3_A, x_7_3_U, x_4_2, x_7_4_I, x_7_4_A, x_7_4_U, x_61, x_4_4, x_6_0, x_33, x_65, x_7_5_I, x_7_5_A, x_7_5_U, x_7_6_I, x_7_6_A, x_7_6_U, x_4_6, x_66, x_4_5, x_68, x_34, x_12, x_38_148, x_38_182, x_35_0, x_4_1, x_63, x_60, x_10_6_I, x_10_6_A, x_10_6_U, x_4_3, x_20, x_18, x_10_4_I, x_10_4_A, x_10_4_U, x_82, u_159_0, u_159_60, u_159_61, u_159_81, u_159_87, Int.reduceEq, Int.reduceLT, Int.reduceLE, reduceIte, Int.reduceAdd, Int.reduceSub, Int.reduceMul, Int.reduceNeg, Int.reduceToNat, Bool.false_eq_true, eq_self, if_pos, if_neg]
      · intro _
        show run _ _ _ _ _ _ = run _ _ _ _ _ _
        rw [hd_159_20]
        simp (disch := omega) only [x_1, x_7_3_I, x_7_3_A, x_7_3_U, x_4_2, x_7_4_I, x_7_4_A, x_7_4_U, x_61, x_4_4, x_6_0, x_33, x_65, x_7_5_I, x_7_5_A, x_7_5_U, x_7_6_I, x_7_6_A, x_7_6_U, x_4_6, x_66, x_4_5, x_68, x_34, x_12, x_38_148, x_38_182, x_35_0, x_4_1, x_63, x_60, x_10_6_I, x_10_6_A, x_10_6_U, x_4_3, x_20, x_18, x_10_4_I, x_10_4_A, x_10_4_U, x_82, u_159_0, u_159_60, u_159_61, u_159_81, u_159_87, Int.reduceEq, Int.reduceLT, Int.reduceLE, reduceIte, Int.reduceAdd, Int.reduceSub, Int.reduceMul, Int.reduceNeg, Int.reduceToNat, Bool.false_eq_true, eq_self, if_pos, if_neg]
    obtain ⟨x, main⟩ := main
    refine ⟨(aI (boI (plB T t e s p)), x), ?_⟩
    rw [hd_159_5]
    simp (disch := omega) only [x_1, x_7_3_I, x_7_3_A, x_7_3_U, x_4_2, x_7_4_I, x_7_4_A, x_7_4_U, x_61, x_4_4, x_6_0, x_33, x_65, x_7_5_I, x_7_5_A, x_7_5_U, x_7_6_I, x_7_6_A, x_7_6_U, x_4_6, x_66, x_4_5, x_68, x_34, x_12, x_38_148, x_38_182, x_35_0, x_4_1, x_63, x_60, x_10_6_I, x_10_6_A, x_10_6_U, x_4_3, x_20, x_18, x_10_4_I, x_10_4_A, x_10_4_U, x_82, u_159_0, u_159_60, u_159_61, u_159_81, u_159_87, h3, Int.reduceEq, Int.reduceLT, Int.reduceLE, reduceIte, Int.reduceAdd, Int.reduceSub, Int.reduceMul, Int.reduceNeg, Int.reduceToNat, Bool.false_eq_true, eq_self, if_pos, if_neg]
    rw [main]
    cases hb : plB T t e s p with
    | true =>
      have e1 : boI true = 1 := rfl
      rw [bs_s _ hb]
      simp (disch := omega) only [x_1, x_7_3_I, x_7_3_A, x_7_3_U, x_4_2, x_7_4_I, x_7_4_A, x_7_4_U, x_61, x_4_4, x_6_0, x_33, x_65, x_7_5_I, x_7_5_A, x_7_5_U, x_7_6_I, x_7_6_A, x_7_6_U, x_4_6, x_66, x_4_5, x_68, x_34, x_12, x_38_148, x_38_182, x_35_0, x_4_1, x_63, x_60, x_10_6_I, x_10_6_A, x_10_6_U, x_4_3, x_20, x_18, x_10_4_I, x_10_4_A, x_10_4_U, x_82, u_159_0, u_159_60, u_159_61, u_159_69, u_159_81, u_159_87, e1, bs_or, Int.reduceEq, Int.reduceLT, Int.reduceLE, reduceIte, Int.reduceAdd, Int.reduceSub, Int.reduceMul, Int.reduceNeg, Int.reduceToNat, Bool.false_eq_true, eq_self, if_pos, if_neg, ci, w32_id]
    | false =>
      have e1 : boI false = 0 := rfl
      rw [bs_f _ hb]
      simp (disch := omega) only [x_1, x_7_3_I, x_7_3_A, x_7_3_U, x_4_2, x_7_4_I, x_7_4_A, x_7_4_U, x_61, x_4_4, x_6_0, x_33, x_65, x_7_5_I, x_7_5_A, x_7_5_U, x_7_6_I, x_7_6_A, x_7_6_U, x_4_6, x_66, x_4_5, x_68, x_34, x_12, x_38_148, x_38_182, x_35_0, x_4_1, x_63, x_60, x_10_6_I, x_10_6_A, x_10_6_U, x_4_3, x_20, x_18, x_10_4_I, x_10_4_A, x_10_4_U, x_82, u_159_0, u_159_60, u_159_61, u_159_69, u_159_81, u_159_87, e1, Int.reduceEq, Int.reduceLT, Int.reduceLE, reduceIte, Int.reduceAdd, Int.reduceSub, Int.reduceMul, Int.reduceNeg, Int.reduceToNat, Bool.false_eq_true, eq_self, if_pos, if_neg, ci, w32_id]
  · intro v
    show run _ _ _ _ _ _ = _
    rw [show s + (L - s) = L by omega, hd_159_5]
    simp (disch := omega) only [x_1, x_7_3_I, x_7_3_A, x_7_3_U, x_4_2, x_7_4_I, x_7_4_A, x_7_4_U, x_61, x_4_4, x_6_0, x_33, x_65, x_7_5_I, x_7_5_A, x_7_5_U, x_7_6_I, x_7_6_A, x_7_6_U, x_4_6, x_66, x_4_5, x_68, x_34, x_12, x_38_148, x_38_182, x_35_0, x_4_1, x_63, x_60, x_10_6_I, x_10_6_A, x_10_6_U, x_4_3, x_20, x_18, x_10_4_I, x_10_4_A, x_10_4_U, x_82, u_159_0, u_159_60, u_159_61, u_159_69, u_159_81, u_159_87, h3, Int.reduceEq, Int.reduceLT, Int.reduceLE, reduceIte, Int.reduceAdd, Int.reduceSub, Int.reduceMul, Int.reduceNeg, Int.reduceToNat, Bool.false_eq_true, eq_self, if_pos, if_neg]
/-- how often a key follows -/
def nvF (T t : Nat → Int) (e s L k : Nat) : Nat := cnt (fun p => plB T t e s p && decide (T p = (k : Int))) L
theorem oftenest_c (lv e s L : Nat) (T t : Nat → Int) (h : Hp) (h3 : h 183 0 0 = (L : Int)) (hL : L ≤ 12) (hT : ∀ j, j < L → h 182 0 j = T j) : cl (lv + 1) 160 [aA 11 0, aI ((bsN (plB T t e s) L : Nat) : Int)] h = ri (fuF (nvF T t e s L) 64).1 h := by
  have nl : bsN (plB T t e s) L < 2 ^ 31 := Nat.lt_of_lt_of_le (bsN_mono _ hL) (by decide)
  rw [in_160]
  simp (disch := omega) only [x_1, x_7_2_I, x_7_2_A, x_7_2_U, x_7_3_I, x_7_3_A, x_7_3_U, x_7_4_I, x_7_4_A, x_7_4_U, x_61, x_4_4, x_65, x_7_5_I, x_7_5_A, x_7_5_U, x_7_6_I, x_7_6_A, x_7_6_U, x_4_6, x_6_0, x_33, x_4_1, x_21, x_17, x_68, x_34, x_38_182, x_63, x_10_5_I, x_10_5_A, x_10_5_U, x_10_6_I, x_10_6_A, x_10_6_U, x_60, x_4_5, x_4_3, x_67, x_10_4_I, x_10_4_A, x_10_4_U, x_4_2, x_82, u_160_0, u_160_53, u_160_59, u_160_71, u_160_77]
  refine loop_g (F := fun k (v : AV × AV) => run lv 160 7 [aA 11 0, aI ((bsN (plB T t e s) L : Nat) : Int), aI (fuF (nvF T t e s L) k).1, aI ((fuF (nvF T t e s L) k).2 : Int), aI (k : Int), v.1, v.2] [] h) (N := 64) ?_ ?_ (none, none)
  · intro k v hk
    refine ⟨(aI ((nvF T t e s L k : Nat) : Int), aI (L : Int)), ?_⟩
    have main := loop_up (F := fun p => run lv 160 20 [aA 11 0, aI ((bsN (plB T t e s) L : Nat) : Int), aI (fuF (nvF T t e s L) k).1, aI ((fuF (nvF T t e s L) k).2 : Int), aI (k : Int), aI ((cnt (fun p => plB T t e s p && decide (T p = (k : Int))) p : Nat) : Int), aI (p : Int)] [] h) (N := L) (r := run lv 160 59 [aA 11 0, aI ((bsN (plB T t e s) L : Nat) : Int), aI (fuF (nvF T t e s L) k).1, aI ((fuF (nvF T t e s L) k).2 : Int), aI (k : Int), aI ((nvF T t e s L k : Nat) : Int), aI (L : Int)] [] h) ?_ ?_ 0 (by omega)
    · show run _ _ _ _ _ _ = run _ _ _ _ _ _
      rw [hd_160_7]
      simp (disch := omega) only [x_1, x_7_2_I, x_7_2_A, x_7_2_U, x_7_3_I, x_7_3_A, x_7_3_U, x_7_4_I, x_7_4_A, x_7_4_U, x_61, x_4_4, x_65, x_7_5_I, x_7_5_A, x_7_5_U, x_7_6_I, x_7_6_A, x_7_6_U, x_4_6, x_6_0, x_33, x_4_1, x_21, x_17, x_68, x_34, x_38_182, x_63, x_10_5_I, x_10_5_A, x_10_5_U, x_10_6_I, x_10_6_A, x_10_6_U, x_60, x_4_5, x_4_3, x_67, x_10_4_I, x_10_4_A, x_10_4_U, x_4_2, x_82, u_160_0, u_160_53, u_160_71, u_160_77, Int.reduceEq, Int.reduceLT, Int.reduceLE, reduceIte, Int.reduceAdd, Int.reduceSub, Int.reduceMul, Int.reduceNeg, Int.reduceToNat, Bool.false_eq_true, eq_self, if_pos, if_neg]
      refine Eq.trans main ?_
      simp only [fuF]
      by_cases c : (fuF (nvF T t e s L) k).2 < nvF T t e s L k
      · rw [if_pos c]
        simp (disch := omega) only [x_1, x_7_2_I, x_7_2_A, x_7_2_U, x_7_3_I, x_7_3_A, x_7_3_U, x_7_4_I, x_7_4_A, x_7_4_U, x_61, x_4_4, x_65, x_7_5_I, x_7_5_A, x_7_5_U, x_7_6_I, x_7_6_A, x_7_6_U, x_4_6, x_6_0, x_33, x_4_1, x_21, x_17, x_68, x_34, x_38_182, x_63, x_10_5_I, x_10_5_A, x_10_5_U, x_10_6_I, x_10_6_A, x_10_6_U, x_60, x_4_5, x_4_3, x_67, x_10_4_I, x_10_4_A, x_10_4_U, x_4_2, x_82, u_160_0, u_160_53, u_160_59, u_160_71, u_160_77, Int.reduceEq, Int.reduceLT, Int.reduceLE, reduceIte, Int.reduceAdd, Int.reduceSub, Int.reduceMul, Int.reduceNeg, Int.reduceToNat, Bool.false_eq_true, eq_self, if_pos, if_neg, ci, w32_id]
      · rw [if_neg c]
        simp (disch := omega) only [x_1, x_7_2_I, x_7_2_A, x_7_2_U, x_7_3_I, x_7_3_A, x_7_3_U, x_7_4_I, x_7_4_A, x_7_4_U, x_61, x_4_4, x_65, x_7_5_I, x_7_5_A, x_7_5_U, x_7_6_I, x_7_6_A, x_7_6_U, x_4_6, x_6_0, x_33, x_4_1, x_21, x_17, x_68, x_34, x_38_182, x_63, x_10_5_I, x_10_5_A, x_10_5_U, x_10_6_I, x_10_6_A, x_10_6_U, x_60, x_4_5, x_4_3, x_67, x_10_4_I, x_10_4_A, x_10_4_U, x_4_2, x_82, u_160_0, u_160_53, u_160_59, u_160_71, u_160_77, Int.reduceEq, Int.reduceLT, Int.reduceLE, reduceIte, Int.reduceAdd, Int.reduceSub, Int.reduceMul, Int.reduceNeg, Int.reduceToNat, Bool.false_eq_true, eq_self, if_pos, if_neg, ci, w32_id]
    · intro p hp
      have y1 := hT p hp
      have bn := bit_n (i := p) (by omega) nl
      rw [bsN_bit, decide_eq_true hp, Bool.true_and] at bn
      have cl' := cnt_le (fun p => plB T t e s p && decide (T p = (k : Int))) p
      show run _ _ _ _ _ _ = run _ _ _ [_, _, _, _, _, aI ((cnt (fun p => plB T t e s p && decide (T p = (k : Int))) p + (if (plB T t e s p && decide (T p = (k : Int))) = true then 1 else 0) : Nat) : Int), _] _ _
      rw [hd_160_20]
      cases hb : plB T t e s p with
      | true =>
        rw [if_pos hb] at bn
        by_cases c : T p = (k : Int)
        · rw [decide_eq_true c, if_pos (by decide)]
          simp (disch := omega) only [x_1, x_7_2_I, x_7_2_A, x_7_2_U, x_7_3_I, x_7_3_A, x_7_3_U, x_7_4_I, x_7_4_A, x_7_4_U, x_61, x_4_4, x_65, x_7_5_I, x_7_5_A, x_7_5_U, x_7_6_I, x_7_6_A, x_7_6_U, x_4_6, x_6_0, x_33, x_4_1, x_21, x_17, x_68, x_34, x_38_182, x_63, x_10_5_I, x_10_5_A, x_10_5_U, x_10_6_I, x_10_6_A, x_10_6_U, x_60, x_4_5, x_4_3, x_67, x_10_4_I, x_10_4_A, x_10_4_U, x_4_2, x_82, u_160_0, u_160_53, u_160_59, u_160_71, u_160_77, h3, tn, y1, bn, c, Int.reduceEq, Int.reduceLT, Int.reduceLE, reduceIte, Int.reduceAdd, Int.reduceSub, Int.reduceMul, Int.reduceNeg, Int.reduceToNat, Bool.false_eq_true, eq_self, if_pos, if_neg, ci, w32_id]
        · rw [decide_eq_false c, if_neg (by decide)]
          simp (disch := omega) only [x_1, x_7_2_I, x_7_2_A, x_7_2_U, x_7_3_I, x_7_3_A, x_7_3_U, x_7_4_I, x_7_4_A, x_7_4_U, x_61, x_4_4, x_65, x_7_5_I, x_7_5_A, x_7_5_U, x_7_6_I, x_7_6_A, x_7_6_U, x_4_6, x_6_0, x_33, x_4_1, x_21, x_17, x_68, x_34, x_38_182, x_63, x_10_5_I, x_10_5_A, x_10_5_U, x_10_6_I, x_10_6_A, x_10_6_U, x_60, x_4_5, x_4_3, x_67, x_10_4_I, x_10_4_A, x_10_4_U, x_4_2, x_82, u_160_0, u_160_53, u_160_59, u_160_71, u_160_77, h3, tn, y1, bn, c, Int.reduceEq, Int.reduceLT, Int.reduceLE, reduceIte, Int.reduceAdd, Int.reduceSub, Int.reduceMul, Int.reduceNeg, Int.reduceToNat, Bool.false_eq_true, eq_self, if_pos, if_neg, ci, w32_id, Nat.add_zero]
      | false =>
        rw [if_neg (by rw [hb]; decide)] at bn
        rw [Bool.false_and, if_neg (by decide)]
        simp (disch := omega) only [x_1, x_7_2_I, x_7_2_A, x_7_2_U, x_7_3_I, x_7_3_A, x_7_3_U, x_7_4_I, x_7_4_A, x_7_4_U, x_61, x_4_4, x_65, x_7_5_I, x_7_5_A, x_7_5_U, x_7_6_I, x_7_6_A, x_7_6_U, x_4_6, x_6_0, x_33, x_4_1, x_21, x_17, x_68, x_34, x_38_182, x_63, x_10_5_I, x_10_5_A, x_10_5_U, x_10_6_I, x_10_6_A, x_10_6_U, x_60, x_4_5, x_4_3, x_67, x_10_4_I, x_10_4_A, x_10_4_U, x_4_2, x_82, u_160_0, u_160_53, u_160_59, u_160_71, u_160_77, h3, tn, y1, bn, Int.reduceEq, Int.reduceLT, Int.reduceLE, reduceIte, Int.reduceAdd, Int.reduceSub, Int.reduceMul, Int.reduceNeg, Int.reduceToNat, Bool.false_eq_true, eq_self, if_pos, if_neg, ci, w32_id, Nat.add_zero]
    · show run _ _ _ _ _ _ = _
      rw [hd_160_20]
      simp (disch := omega) only [x_1, x_7_2_I, x_7_2_A, x_7_2_U, x_7_3_I, x_7_3_A, x_7_3_U, x_7_4_I, x_7_4_A, x_7_4_U, x_61, x_4_4, x_65, x_7_5_I, x_7_5_A, x_7_5_U, x_7_6_I, x_7_6_A, x_7_6_U, x_4_6, x_6_0, x_33, x_4_1, x_21, x_17, x_68, x_34, x_38_182, x_63, x_10_5_I, x_10_5_A, x_10_5_U, x_10_6_I, x_10_6_A, x_10_6_U, x_60, x_4_5, x_4_3, x_67, x_10_4_I, x_10_4_A, x_10_4_U, x_4_2, x_82, u_160_0, u_160_53, u_160_71, u_160_77, h3, Int.reduceEq, Int.reduceLT, Int.reduceLE, reduceIte, Int.reduceAdd, Int.reduceSub, Int.reduceMul, Int.reduceNeg, Int.reduceToNat, Bool.false_eq_true, eq_self, if_pos, if_neg]
      rfl
  · intro v
    show run _ _ _ _ _ _ = _
    rw [hd_160_7]
    simp (disch := omega) only [x_1, x_7_2_I, x_7_2_A, x_7_2_U, x_7_3_I, x_7_3_A, x_7_3_U, x_7_4_I, x_7_4_A, x_7_4_U, x_61, x_4_4, x_65, x_7_5_I, x_7_5_A, x_7_5_U, x_7_6_I, x_7_6_A, x_7_6_U, x_4_6, x_6_0, x_33, x_4_1, x_21, x_17, x_68, x_34, x_38_182, x_63, x_10_5_I, x_10_5_A, x_10_5_U, x_10_6_I, x_10_6_A, x_10_6_U, x_60, x_4_5, x_4_3, x_67, x_10_4_I, x_10_4_A, x_10_4_U, x_4_2, x_82, u_160_0, u_160_53, u_160_59, u_160_71, u_160_77, Int.reduceEq, Int.reduceLT, Int.reduceLE, reduceIte, Int.reduceAdd, Int.reduceSub, Int.reduceMul, Int.reduceNeg, Int.reduceToNat, Bool.false_eq_true, eq_self, if_pos, if_neg]
