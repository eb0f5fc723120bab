/-! WHOSE PART IT IS: rows of notes and rules. -/
theorem loop_j {α : Type} {F : Nat → α → Option Rs} {P : Nat → α → Prop} {N : Nat} (hs : ∀ i a, i < N → P i a → ∃ b, P (i + 1) b ∧ F i a = F (i + 1) b) : ∀ a, P 0 a → ∃ b, P N b ∧ F 0 a = F N b := by
  intro a ha
  have key : ∀ n, n ≤ N → ∃ b, P n b ∧ F 0 a = F n b := by
    intro n
    induction n with
    | zero => intro _; exact ⟨a, ha, rfl⟩
    | succ n ih =>
      intro hn
      obtain ⟨b, h1, h2⟩ := ih (by omega)
      obtain ⟨c, h3, h4⟩ := hs n b (by omega) h1
      exact ⟨c, h3, h2.trans h4⟩
  exact key N (Nat.le_refl _)
theorem idiv_p {x y : Int} (h0 : 0 ≤ x) (h1 : x < 2147483648) (hy : 1 ≤ y) : idiv x y = x / y := by
  unfold idiv
  rw [Int.tdiv_eq_ediv_of_nonneg h0]
  have a := Int.ediv_nonneg h0 (show 0 ≤ y by omega)
  have b := Int.ediv_le_self y h0
  exact w32_id (by omega) (by omega)
theorem irem_q {x : Int} (y : Int) (h : 0 ≤ x) : irem x y = x % y := Int.tmod_eq_emod_of_nonneg h
/-- rows: a note and 0 or 1 -/
def rwP (t : Nat → Int) (N r : Nat) : Bool := decide ((N : Int) ≤ t (2 * r)) || decide (2 ≤ t (2 * r + 1))
def rowsB (t : Nat → Int) (N e : Nat) : Prop := e ≤ 40 ∧ e % 2 = 0 ∧ ¬ anyB (rwP t N) (e / 2) = true
theorem isNoteRows_c (lv e N : Nat) (t : Nat → Int) (h : Hp) (he : e ≤ 400) (ht : ∀ j, j < 400 → h 148 0 j = t j) (hd : Decidable (rowsB t N e)) : cl (lv + 1) 60 [aA 8 0, aI (e : Int), aI (N : Int)] h = ri (if rowsB t N e then 1 else 0) h := by
  rw [in_60]
  by_cases c : e ≤ 40
  · have ir := irem_q (x := (e : Int)) 2 (by omega)
    by_cases c1 : e % 2 = 0
    · have c1' : (e : Int) % 2 = 0 := by omega
      simp (disch := omega) only [x_4_1, x_1, x_66, x_15, x_68, x_61, x_85, x_7_3_I, x_7_3_A, x_7_3_U, x_4_3, x_11, x_65, x_6_0, x_34, x_38_148, x_4_2, x_67, x_10_3_I, x_10_3_A, x_10_3_U, x_60, u_60_0, u_60_12, u_60_14, u_60_45, u_60_47, u_60_53, ir, c1', Int.reduceEq, Int.reduceLT, Int.reduceLE, reduceIte, Int.reduceAdd, Int.reduceSub, Int.reduceMul, Int.reduceNeg, Int.reduceToNat, Bool.false_eq_true, eq_self, if_pos, if_neg]
      have main := loop_any (F := fun r => run lv 60 16 [aA 8 0, aI (e : Int), aI (N : Int), aI ((2 * r : Nat) : Int)] [] h) (N := e / 2) (P := rwP t N) (r1 := ri 0 h) (r0 := ri 1 h) ?_ ?_
      · refine Eq.trans main ?_
        by_cases c2 : anyB (rwP t N) (e / 2) = true
        · rw [if_pos c2, if_neg (fun z => z.2.2 c2)]
        · rw [if_neg c2, if_pos ⟨c, c1, c2⟩]
      · intro r hr
        have y1 := ht (2 * r) (by omega)
        have y2 := ht (2 * r + 1) (by omega)
        have z1 : (((2 * r : Nat) : Int) + 1).toNat = 2 * r + 1 := by omega
        have z2 : ((2 * (r + 1) : Nat) : Int) = ((2 * r : Nat) : Int) + 2 := by omega
        show run _ _ _ _ _ _ = if _ then _ else run _ _ _ _ _ _
        rw [z2, hd_60_16]
        have hlt : ((2 * r : Nat) : Int) + 1 < (e : Int) := by omega
        generalize hq : 2 * r = q at *
        have hw : rwP t N r = (decide ((N : Int) ≤ t q) || decide (2 ≤ t (q + 1))) := by unfold rwP; rw [hq]
        rw [hw]
        by_cases d : (N : Int) ≤ t q
        · rw [decide_eq_true d, Bool.true_or, if_pos rfl]
          simp (disch := omega) only [x_4_1, x_1, x_66, x_15, x_68, x_61, x_85, x_7_3_I, x_7_3_A, x_7_3_U, x_4_3, x_11, x_65, x_6_0, x_34, x_38_148, x_4_2, x_67, x_10_3_I, x_10_3_A, x_10_3_U, x_60, u_60_0, u_60_12, u_60_14, u_60_45, u_60_47, u_60_53, tn, y1, w32_id, Int.reduceEq, Int.reduceLT, Int.reduceLE, reduceIte, Int.reduceAdd, Int.reduceSub, Int.reduceMul, Int.reduceNeg, Int.reduceToNat, Bool.false_eq_true, eq_self, if_pos, if_neg]
        · rw [decide_eq_false d, Bool.false_or]
          by_cases d2 : 2 ≤ t (q + 1)
          · rw [decide_eq_true d2, if_pos rfl]
            simp (disch := omega) only [x_4_1, x_1, x_66, x_15, x_68, x_61, x_85, x_7_3_I, x_7_3_A, x_7_3_U, x_4_3, x_11, x_65, x_6_0, x_34, x_38_148, x_4_2, x_67, x_10_3_I, x_10_3_A, x_10_3_U, x_60, u_60_0, u_60_12, u_60_14, u_60_45, u_60_47, u_60_53, tn, y1, z1, y2, w32_id, Int.reduceEq, Int.reduceLT, Int.reduceLE, reduceIte, Int.reduceAdd, Int.reduceSub, Int.reduceMul, Int.reduceNeg, Int.reduceToNat, Bool.false_eq_true, eq_self, if_pos, if_neg]
          · rw [decide_eq_false d2, if_neg (by decide)]
            simp (disch := omega) only [x_4_1, x_1, x_66, x_15, x_68, x_61, x_85, x_7_3_I, x_7_3_A, x_7_3_U, x_4_3, x_11, x_65, x_6_0, x_34, x_38_148, x_4_2, x_67, x_10_3_I, x_10_3_A, x_10_3_U, x_60, u_60_0, u_60_12, u_60_14, u_60_45, u_60_47, u_60_53, tn, y1, z1, y2, w32_id, Int.reduceEq, Int.reduceLT, Int.reduceLE, reduceIte, Int.reduceAdd, Int.reduceSub, Int.reduceMul, Int.reduceNeg, Int.reduceToNat, Bool.false_eq_true, eq_self, if_pos, if_neg]
      · show run _ _ _ _ _ _ = _
        rw [hd_60_16]
        simp (disch := omega) only [x_4_1, x_1, x_66, x_15, x_68, x_61, x_85, x_7_3_I, x_7_3_A, x_7_3_U, x_4_3, x_11, x_65, x_6_0, x_34, x_38_148, x_4_2, x_67, x_10_3_I, x_10_3_A, x_10_3_U, x_60, u_60_0, u_60_12, u_60_14, u_60_45, u_60_47, u_60_53, w32_id, Int.reduceEq, Int.reduceLT, Int.reduceLE, reduceIte, Int.reduceAdd, Int.reduceSub, Int.reduceMul, Int.reduceNeg, Int.reduceToNat, Bool.false_eq_true, eq_self, if_pos, if_neg]
    · have c1' : ¬ (e : Int) % 2 = 0 := by omega
      rw [if_neg (fun z => c1 z.2.1)]
      simp (disch := omega) only [x_4_1, x_1, x_66, x_15, x_68, x_61, x_85, x_7_3_I, x_7_3_A, x_7_3_U, x_4_3, x_11, x_65, x_6_0, x_34, x_38_148, x_4_2, x_67, x_10_3_I, x_10_3_A, x_10_3_U, x_60, u_60_0, u_60_12, u_60_14, u_60_45, u_60_47, u_60_53, ir, c1', Int.reduceEq, Int.reduceLT, Int.reduceLE, reduceIte, Int.reduceAdd, Int.reduceSub, Int.reduceMul, Int.reduceNeg, Int.reduceToNat, Bool.false_eq_true, eq_self, if_pos, if_neg]
  · rw [if_neg (fun z => c z.1)]
    simp (disch := omega) only [x_4_1, x_1, x_66, x_15, x_68, x_61, x_85, x_7_3_I, x_7_3_A, x_7_3_U, x_4_3, x_11, x_65, x_6_0, x_34, x_38_148, x_4_2, x_67, x_10_3_I, x_10_3_A, x_10_3_U, x_60, u_60_0, u_60_12, u_60_14, u_60_45, u_60_47, u_60_53, Int.reduceEq, Int.reduceLT, Int.reduceLE, reduceIte, Int.reduceAdd, Int.reduceSub, Int.reduceMul, Int.reduceNeg, Int.reduceToNat, Bool.false_eq_true, eq_self, if_pos, if_neg]
/-- a rule fits a note -/
def hsB (M : Nat → Int) (lo hi hd : Nat) (n : Nat) : Bool := decide ((lo : Int) ≤ M (50 + 4 * n + 1) / 8) && (decide (M (50 + 4 * n + 1) / 8 ≤ (hi : Int)) && decide ((hd : Int) ≤ M (50 + 4 * n + 2)))
theorem has_c (lv N lo hi hd n : Nat) (M : Nat → Int) (h : Hp) (R : RN h 0 M N) (hk : 0 ≤ M (50 + 4 * n + 1) ∧ M (50 + 4 * n + 1) ≤ 63) (hn : n < N) : cl (lv + 1) 2 [aA 7 0, aI (n : Int), aI (lo : Int), aI (hi : Int), aI (hd : Int)] h = ri (boI (hsB M lo hi hd n)) h := by
  have h40 := R.1
  have hN := R.2.1
  obtain ⟨-, m1, m2⟩ := R.2.2.2 n hn
  have id := idiv_p (x := M (50 + 4 * n + 1)) (y := 8) hk.1 (by omega) (by omega)
  unfold hsB
  rw [in_2]
  generalize M (50 + 4 * n + 1) = ky at *
  by_cases c1 : (lo : Int) ≤ ky / 8
  · by_cases c2 : ky / 8 ≤ (hi : Int)
    · by_cases c3 : (hd : Int) ≤ M (50 + 4 * n + 2)
      · rw [decide_eq_true c1, decide_eq_true c2, decide_eq_true c3]
        simp (disch := omega) only [x_4_1, x_70, x_6_0, x_33, x_64, x_61, x_1, x_85, x_34, x_38_135, x_38_136, x_14, x_7_5_I, x_7_5_A, x_7_5_U, x_4_2, x_4_5, x_66, x_4_3, x_4_4, x_60, u_2_0, u_2_12, u_2_14, u_2_52, u_2_53, h40, tn, m1, m2, id, Int.reduceEq, Int.reduceLT, Int.reduceLE, reduceIte, Int.reduceAdd, Int.reduceSub, Int.reduceMul, Int.reduceNeg, Int.reduceToNat, Bool.false_eq_true, eq_self, if_pos, if_neg]
        rfl
      · rw [decide_eq_false c3, Bool.and_false, Bool.and_false]
        simp (disch := omega) only [x_4_1, x_70, x_6_0, x_33, x_64, x_61, x_1, x_85, x_34, x_38_135, x_38_136, x_14, x_7_5_I, x_7_5_A, x_7_5_U, x_4_2, x_4_5, x_66, x_4_3, x_4_4, x_60, u_2_0, u_2_12, u_2_14, u_2_52, u_2_53, h40, tn, m1, m2, id, Int.reduceEq, Int.reduceLT, Int.reduceLE, reduceIte, Int.reduceAdd, Int.reduceSub, Int.reduceMul, Int.reduceNeg, Int.reduceToNat, Bool.false_eq_true, eq_self, if_pos, if_neg]
        rfl
    · rw [decide_eq_false c2, Bool.false_and, Bool.and_false]
      simp (disch := omega) only [x_4_1, x_70, x_6_0, x_33, x_64, x_61, x_1, x_85, x_34, x_38_135, x_38_136, x_14, x_7_5_I, x_7_5_A, x_7_5_U, x_4_2, x_4_5, x_66, x_4_3, x_4_4, x_60, u_2_0, u_2_12, u_2_14, u_2_52, u_2_53, h40, tn, m1, id, Int.reduceEq, Int.reduceLT, Int.reduceLE, reduceIte, Int.reduceAdd, Int.reduceSub, Int.reduceMul, Int.reduceNeg, Int.reduceToNat, Bool.false_eq_true, eq_self, if_pos, if_neg]
      rfl
  · rw [decide_eq_false c1, Bool.false_and]
    simp (disch := omega) only [x_4_1, x_70, x_6_0, x_33, x_64, x_61, x_1, x_85, x_34, x_38_135, x_38_136, x_14, x_7_5_I, x_7_5_A, x_7_5_U, x_4_2, x_4_5, x_66, x_4_3, x_4_4, x_60, u_2_0, u_2_12, u_2_14, u_2_52, u_2_53, h40, tn, m1, id, Int.reduceEq, Int.reduceLT, Int.reduceLE, reduceIte, Int.reduceAdd, Int.reduceSub, Int.reduceMul, Int.reduceNeg, Int.reduceToNat, Bool.false_eq_true, eq_self, if_pos, if_neg]
    rfl
theorem hasBy_m (lv N q n : Nat) (h : Hp) (hN : N ≤ 14) (hk : 0 ≤ h 187 0 (50 + 4 * n + 1) ∧ h 187 0 (50 + 4 * n + 1) ≤ 63) (hn : n < N) (hq : q < 640) : cl (lv + 2) 276 [aA 12 0, aI (q : Int), aI (n : Int)] h = ri (boI (hsB (h 187 0) (q / 80) (q / 10 % 8) (q % 10) n)) h := by
  have o1 : cl (lv + 1) 175 [aA 12 0, aI (n : Int), aI 1] h = _ := ofNote_c lv n 1 h (by omega) (by omega)
  have o2 : cl (lv + 1) 175 [aA 12 0, aI (n : Int), aI 2] h = _ := ofNote_c lv n 2 h (by omega) (by omega)
  have i1 := idiv_p (x := h 187 0 (50 + 4 * n + 1)) (y := 8) hk.1 (by omega) (by omega)
  have i2 := idiv_p (x := (q : Int)) (y := 80) (by omega) (by omega) (by omega)
  have i3 := idiv_p (x := (q : Int)) (y := 10) (by omega) (by omega) (by omega)
  have i4 := irem_q (x := (q : Int) / 10) 8 (by omega)
  have i5 := irem_q (x := (q : Int)) 10 (by omega)
  have ii := isIn_c lv (h 187 0 (50 + 4 * n + 1) / 8) ((q : Int) / 80) ((q : Int) / 10 % 8) h
  unfold hsB
  rw [in_276]
  generalize h 187 0 (50 + 4 * n + 1) = ky at *
  have e1 : (((q / 80 : Nat) : Nat) : Int) = (q : Int) / 80 := by omega
  have e2 : (((q / 10 % 8 : Nat) : Nat) : Int) = (q : Int) / 10 % 8 := by omega
  have e3 : (((q % 10 : Nat) : Nat) : Int) = (q : Int) % 10 := by omega
  rw [e1, e2, e3]
  by_cases c : (q : Int) / 80 ≤ ky / 8 ∧ ky / 8 ≤ (q : Int) / 10 % 8
  · rw [if_pos c] at ii
    rw [decide_eq_true c.1, decide_eq_true c.2, Bool.true_and, Bool.true_and]
    by_cases c3 : (q : Int) % 10 ≤ h 187 0 (50 + 4 * n + 2)
    · rw [decide_eq_true c3]
      simp (disch := omega) only [x_6_0, x_4_2, x_1, x_79_3_12_d0, x_79_3_12_d1, x_79_3_12_d2, x_79_3_12_d3, x_79_3_12_d4, x_14, x_4_1, x_15, x_80_3_d0, x_80_3_d1, x_80_3_d2, x_80_3_d3, x_80_3_d4, x_68, x_64, x_60, x_61, x_85, cb_ri, cb_rl, cb_rv, cb_th, cb_ite, ps_s, ps_n, u_276_0, u_276_43, u_276_44, o1, o2, i1, i2, i3, i4, i5, ii, Int.reduceEq, Int.reduceLT, Int.reduceLE, reduceIte, Int.reduceAdd, Int.reduceSub, Int.reduceMul, Int.reduceNeg, Int.reduceToNat, Bool.false_eq_true, eq_self, if_pos, if_neg]
      rfl
    · rw [decide_eq_false c3]
      simp (disch := omega) only [x_6_0, x_4_2, x_1, x_79_3_12_d0, x_79_3_12_d1, x_79_3_12_d2, x_79_3_12_d3, x_79_3_12_d4, x_14, x_4_1, x_15, x_80_3_d0, x_80_3_d1, x_80_3_d2, x_80_3_d3, x_80_3_d4, x_68, x_64, x_60, x_61, x_85, cb_ri, cb_rl, cb_rv, cb_th, cb_ite, ps_s, ps_n, u_276_0, u_276_43, u_276_44, o1, o2, i1, i2, i3, i4, i5, ii, Int.reduceEq, Int.reduceLT, Int.reduceLE, reduceIte, Int.reduceAdd, Int.reduceSub, Int.reduceMul, Int.reduceNeg, Int.reduceToNat, Bool.false_eq_true, eq_self, if_pos, if_neg]
      rfl
  · rw [if_neg c] at ii
    have e4 : (decide ((q : Int) / 80 ≤ ky / 8) && (decide (ky / 8 ≤ (q : Int) / 10 % 8) && decide ((q : Int) % 10 ≤ h 187 0 (50 + 4 * n + 2)))) = false := by
      by_cases c1 : (q : Int) / 80 ≤ ky / 8
      · rw [decide_eq_false (show ¬ ky / 8 ≤ (q : Int) / 10 % 8 from fun z => c ⟨c1, z⟩), Bool.false_and, Bool.and_false]
      · rw [decide_eq_false c1, Bool.false_and]
    rw [e4]
    simp (disch := omega) only [x_6_0, x_4_2, x_1, x_79_3_12_d0, x_79_3_12_d1, x_79_3_12_d2, x_79_3_12_d3, x_79_3_12_d4, x_14, x_4_1, x_15, x_80_3_d0, x_80_3_d1, x_80_3_d2, x_80_3_d3, x_80_3_d4, x_68, x_64, x_60, x_61, x_85, cb_ri, cb_rl, cb_rv, cb_th, cb_ite, ps_s, ps_n, u_276_0, u_276_43, u_276_44, o1, i1, i2, i3, i4, ii, Int.reduceEq, Int.reduceLT, Int.reduceLE, reduceIte, Int.reduceAdd, Int.reduceSub, Int.reduceMul, Int.reduceNeg, Int.reduceToNat, Bool.false_eq_true, eq_self, if_pos, if_neg]
    rfl
