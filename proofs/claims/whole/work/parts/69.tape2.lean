/-! THE TAPE's READER: where it stands. -/
def TA (h : Hp) (t : Nat → Int) (e p : Nat) : Prop := h 148 0 = t ∧ h 152 0 0 = (e : Int) ∧ e ≤ 400 ∧ p ≤ e ∧ h 151 0 0 = (p : Int) ∧ h 153 0 0 = ((tE t e p : Nat) : Int) ∧ h 154 0 0 = kdA t e p ∧ h 155 0 0 = nuA t e p
theorem tp_148 (h : Hp) (t : Nat → Int) (e p : Nat) : tpH h t e p 148 = h 148 := by funext k i; exact tp_o (by unfold tpR; omega)
theorem tp_tag {h : Hp} {t : Nat → Int} {e p tt : Nat} (ht : tt ≠ 151 ∧ tt ≠ 153 ∧ tt ≠ 154 ∧ tt ≠ 155) : tpH h t e p tt = h tt := by funext k i; exact tp_o (by unfold tpR; omega)
theorem tp_tp (h : Hp) (t : Nat → Int) (e p q : Nat) : tpH (tpH h t e p) t e q = tpH h t e q := by
  refine (tp_ext (tp_1 _ _ _ _) (tp_3 _ _ _ _) (tp_4 _ _ _ _) (tp_5 _ _ _ _) (fun tt k i hn => ?_))
  rw [tp_o hn, tp_o hn]
theorem TA_tp {h : Hp} {t : Nat → Int} {e p : Nat} (h1 : h 148 0 = t) (h2 : h 152 0 0 = (e : Int)) (h3 : e ≤ 400) (h4 : p ≤ e) : TA (tpH h t e p) t e p :=
  ⟨by rw [tp_148]; exact h1, by rw [tp_tag (by omega)]; exact h2, h3, h4, tp_1 _ _ _ _, tp_3 _ _ _ _, tp_4 _ _ _ _, tp_5 _ _ _ _⟩
theorem tE_le (t : Nat → Int) {e p : Nat} (h : p ≤ e) : tE t e p ≤ e := by
  by_cases h1 : p < e
  · exact (tE_b t h1).2
  · unfold tE; rw [if_neg h1]; exact h
theorem nxt_le (t : Nat → Int) {e p : Nat} (h : p ≤ e) : nxt t e p ≤ e := by unfold nxt; exact (sk_b t (tE_le t h)).2
theorem adv_c (lv : Nat) {h : Hp} {t : Nat → Int} {e p : Nat} (A : TA h t e p) : cl (lv + 1) 62 [aA 8 0] h = rv (tpH h t e (nxt t e p)) := by
  obtain ⟨a1, a2, a3, a4, a5, a6, a7, a8⟩ := A
  rw [advance_c lv e (tE t e p) h a2 a3 a6 (tE_le t a4), a1]
  rfl
theorem TA_adv {h : Hp} {t : Nat → Int} {e p : Nat} (A : TA h t e p) : TA (tpH h t e (nxt t e p)) t e (nxt t e p) := TA_tp A.1 A.2.1 A.2.2.1 (nxt_le t A.2.2.2.1)
theorem isEnd_c (lv : Nat) {h : Hp} {t : Nat → Int} {e p : Nat} (A : TA h t e p) : cl (lv + 1) 63 [aA 8 0] h = ri (if p = e then 1 else 0) h := by
  obtain ⟨a1, a2, a3, a4, a5, a6, a7, a8⟩ := A
  rw [in_63]
  unfold kdA at a7
  by_cases h1 : p < e
  · rw [if_pos h1] at a7
    have : h 154 0 0 ≠ 0 := by rw [a7]; split <;> (try split) <;> decide
    simp (disch := omega) only [x_6_0, x_33, x_69, x_1, x_60, x_61, x_85, u_63_0, u_63_11, u_63_12, Int.reduceEq, Int.reduceLT, Int.reduceLE, reduceIte, Int.reduceAdd, Int.reduceSub, Int.reduceMul, Int.reduceNeg, Int.reduceToNat, Bool.false_eq_true, eq_self, if_pos, if_neg]
  · rw [if_neg h1] at a7
    simp (disch := omega) only [x_6_0, x_33, x_69, x_1, x_60, x_61, x_85, u_63_0, u_63_11, u_63_12, Int.reduceEq, Int.reduceLT, Int.reduceLE, reduceIte, Int.reduceAdd, Int.reduceSub, Int.reduceMul, Int.reduceNeg, Int.reduceToNat, Bool.false_eq_true, eq_self, if_pos, if_neg]
theorem isNumber_c (lv : Nat) {h : Hp} {t : Nat → Int} {e p : Nat} (A : TA h t e p) : cl (lv + 1) 64 [aA 8 0] h = ri (if p < e ∧ isD (t p) = true then 1 else 0) h := by
  obtain ⟨a1, a2, a3, a4, a5, a6, a7, a8⟩ := A
  rw [in_64]
  unfold kdA at a7
  by_cases h1 : p < e
  · rw [if_pos h1] at a7
    by_cases h2 : isL (t p) = true
    · rw [if_pos h2] at a7
      have h3 : ¬ (p < e ∧ isD (t p) = true) := fun z => by have := isL_t h2; have := isD_t z.2; omega
      simp (disch := omega) only [x_6_0, x_33, x_1, x_63, x_60, x_61, x_85, u_64_0, u_64_12, u_64_13, a7, h3, Int.reduceEq, Int.reduceLT, Int.reduceLE, reduceIte, Int.reduceAdd, Int.reduceSub, Int.reduceMul, Int.reduceNeg, Int.reduceToNat, Bool.false_eq_true, eq_self, if_pos, if_neg]
    · rw [if_neg h2] at a7
      by_cases h3 : isD (t p) = true
      · rw [if_pos h3] at a7
        simp (disch := omega) only [x_6_0, x_33, x_1, x_63, x_60, x_61, x_85, u_64_0, u_64_12, u_64_13, a7, h1, h3, and_self, Int.reduceEq, Int.reduceLT, Int.reduceLE, reduceIte, Int.reduceAdd, Int.reduceSub, Int.reduceMul, Int.reduceNeg, Int.reduceToNat, Bool.false_eq_true, eq_self, if_pos, if_neg]
      · rw [if_neg h3] at a7
        simp (disch := omega) only [x_6_0, x_33, x_1, x_63, x_60, x_61, x_85, u_64_0, u_64_12, u_64_13, a7, h3, and_false, Int.reduceEq, Int.reduceLT, Int.reduceLE, reduceIte, Int.reduceAdd, Int.reduceSub, Int.reduceMul, Int.reduceNeg, Int.reduceToNat, Bool.false_eq_true, eq_self, if_pos, if_neg]
  · rw [if_neg h1] at a7
    simp (disch := omega) only [x_6_0, x_33, x_1, x_63, x_60, x_61, x_85, u_64_0, u_64_12, u_64_13, a7, h1, false_and, Int.reduceEq, Int.reduceLT, Int.reduceLE, reduceIte, Int.reduceAdd, Int.reduceSub, Int.reduceMul, Int.reduceNeg, Int.reduceToNat, Bool.false_eq_true, eq_self, if_pos, if_neg]
theorem isSign_c (lv : Nat) {h : Hp} {t : Nat → Int} {e p : Nat} (c : Int) (A : TA h t e p) (hc1 : ¬ isL c = true) (hc2 : ¬ isD c = true) : cl (lv + 1) 65 [aA 8 0, aI c] h = ri (if isC t e p c = true then 1 else 0) h := by
  obtain ⟨a1, a2, a3, a4, a5, a6, a7, a8⟩ := A
  have a1' : h 148 0 p = t p := by rw [a1]
  rw [in_65]
  unfold kdA at a7
  unfold isC
  by_cases h1 : p < e
  · rw [if_pos h1] at a7
    by_cases h4 : t p = c
    · rw [h4, if_neg hc1, if_neg hc2] at a7
      simp (disch := omega) only [x_6_0, x_33, x_1, x_63, x_34, x_38_148, x_4_1, x_60, x_61, x_85, u_65_0, u_65_25, u_65_26, a7, a5, tn, a1', h1, h4, and_self, decide_true, Int.reduceEq, Int.reduceLT, Int.reduceLE, reduceIte, Int.reduceAdd, Int.reduceSub, Int.reduceMul, Int.reduceNeg, Int.reduceToNat, Bool.false_eq_true, eq_self, if_pos, if_neg]
    · have h5 : decide (p < e ∧ t p = c) = false := by simp [h4]
      by_cases h6 : h 154 0 0 = 3
      · simp (disch := omega) only [x_6_0, x_33, x_1, x_63, x_34, x_38_148, x_4_1, x_60, x_61, x_85, u_65_0, u_65_25, u_65_26, h6, a5, tn, a1', h5, Int.reduceEq, Int.reduceLT, Int.reduceLE, reduceIte, Int.reduceAdd, Int.reduceSub, Int.reduceMul, Int.reduceNeg, Int.reduceToNat, Bool.false_eq_true, eq_self, if_pos, if_neg]
      · simp (disch := omega) only [x_6_0, x_33, x_1, x_63, x_34, x_38_148, x_4_1, x_60, x_61, x_85, u_65_0, u_65_25, u_65_26, h6, h5, Int.reduceEq, Int.reduceLT, Int.reduceLE, reduceIte, Int.reduceAdd, Int.reduceSub, Int.reduceMul, Int.reduceNeg, Int.reduceToNat, Bool.false_eq_true, eq_self, if_pos, if_neg]
  · rw [if_neg h1] at a7
    have h5 : decide (p < e ∧ t p = c) = false := by simp [h1]
    simp (disch := omega) only [x_6_0, x_33, x_1, x_63, x_34, x_38_148, x_4_1, x_60, x_61, x_85, u_65_0, u_65_25, u_65_26, a7, h5, Int.reduceEq, Int.reduceLT, Int.reduceLE, reduceIte, Int.reduceAdd, Int.reduceSub, Int.reduceMul, Int.reduceNeg, Int.reduceToNat, Bool.false_eq_true, eq_self, if_pos, if_neg]
theorem isWord_c (lv : Nat) {h : Hp} {t : Nat → Int} {e p : Nat} (s : Nat) (A : TA h t e p) (hs : s < 46) (hw : 1 ≤ (sTxt.getD s []).length ∧ (sTxt.getD s []).length ≤ 20) : cl (lv + 5) 66 [aA 8 0, aA 20 s] h = ri (if isW t e p (sTxt.getD s []) = true then 1 else 0) h := by
  obtain ⟨a1, a2, a3, a4, a5, a6, a7, a8⟩ := A
  have a1' : ∀ i, h 148 0 i = t i := fun i => by rw [a1]
  have hlen : sLen s = (((sTxt.getD s []).length : Nat) : Int) := rfl
  generalize hL : (sTxt.getD s []).length = L at hw hlen
  rw [in_66]
  unfold kdA at a7
  unfold isW
  rw [hL]
  have hk1 : h 154 0 0 = 1 ↔ (p < e ∧ isL (t p) = true) := by
    rw [a7]
    by_cases h1 : p < e
    · rw [if_pos h1]
      by_cases h2 : isL (t p) = true
      · rw [if_pos h2]; simp [h1, h2]
      · rw [if_neg h2]; split <;> simp [h2]
    · rw [if_neg h1]; simp [h1]
  by_cases h1 : h 154 0 0 = 1
  · obtain ⟨h2, h3⟩ := hk1.mp h1
    have e1 : tE t e p = wE t e p := by unfold tE; rw [if_pos h2, if_pos h3]
    have hwb := wE_b t a4
    by_cases h4 : wE t e p = p + L
    · simp (disch := omega) only [x_6_0, x_33, x_1, x_63, x_12, x_6_1, x_79_1_20_d0, x_79_1_20_d1, x_79_1_20_d2, x_79_1_20_d3, x_79_1_20_d4, x_62, x_61, x_85, x_7_2_I, x_7_2_A, x_7_2_U, x_4_2, x_65, x_34, x_11, x_38_148, x_79_2_20_d0, x_79_2_20_d1, x_79_2_20_d2, x_79_2_20_d3, x_79_2_20_d4, x_10_2_I, x_10_2_A, x_10_2_U, x_60, cb_ri, cb_rl, cb_rv, cb_th, cb_ite, ps_s, ps_n, u_66_0, u_66_24, u_66_26, u_66_57, u_66_63, h1, a5, a6, e1, strLen_c, hlen, w32_id, Int.reduceEq, Int.reduceLT, Int.reduceLE, reduceIte, Int.reduceAdd, Int.reduceSub, Int.reduceMul, Int.reduceNeg, Int.reduceToNat, Bool.false_eq_true, eq_self, if_pos, if_neg]
      have main := loop_any (F := fun i => run (lv + 4) 66 28 [aA 8 0, aA 20 s, aI (i : Int)] [] h) (N := L) (P := fun i => !(decide (t (p + i) = (sTxt.getD s []).getD i 0))) (r1 := ri 0 h) (r0 := ri 1 h) ?_ ?_
      · refine Eq.trans main ?_
        have e2 : (decide (wE t e p = p + L) && allB (fun i => decide (t (p + i) = (sTxt.getD s []).getD i 0)) L) = !(anyB (fun i => !(decide (t (p + i) = (sTxt.getD s []).getD i 0))) L) := by
          rw [h4]
          simp only [decide_true, Bool.true_and]
          clear main hL hlen hw h4 hwb
          induction L with
          | zero => rfl
          | succ L ih => simp only [allB, anyB, ih, Bool.not_or, Bool.not_not]
        rw [e2]
        generalize anyB (fun i => !(decide (t (p + i) = (sTxt.getD s []).getD i 0))) L = bb
        cases bb <;> rfl
      · intro i hi
        have e3 := charAt_c lv s (i : Int) h hs (by omega) (by rw [hlen]; omega)
        have e4 : sChr s (i : Int).toNat = (sTxt.getD s []).getD i 0 := by rw [tn]; rfl
        rw [e4] at e3
        have e5 : ((p : Int) + (i : Int)).toNat = p + i := by omega
        show run _ _ _ _ _ _ = if _ then _ else run _ _ _ _ _ _
        rw [hd_66_28]
        by_cases h6 : t (p + i) = (sTxt.getD s []).getD i 0
        · simp (disch := omega) only [x_6_0, x_33, x_1, x_63, x_12, x_6_1, x_79_1_20_d0, x_79_1_20_d1, x_79_1_20_d2, x_79_1_20_d3, x_79_1_20_d4, x_62, x_61, x_85, x_7_2_I, x_7_2_A, x_7_2_U, x_4_2, x_65, x_34, x_11, x_38_148, x_79_2_20_d0, x_79_2_20_d1, x_79_2_20_d2, x_79_2_20_d3, x_79_2_20_d4, x_10_2_I, x_10_2_A, x_10_2_U, x_60, cb_ri, cb_rl, cb_rv, cb_th, cb_ite, ps_s, ps_n, u_66_0, u_66_24, u_66_26, u_66_57, u_66_63, strLen_c, hlen, a5, e5, a1', e3, h6, w32_id, decide_true, Bool.not_true, Int.reduceEq, Int.reduceLT, Int.reduceLE, reduceIte, Int.reduceAdd, Int.reduceSub, Int.reduceMul, Int.reduceNeg, Int.reduceToNat, Bool.false_eq_true, eq_self, if_pos, if_neg, ci]
        · simp (disch := omega) only [x_6_0, x_33, x_1, x_63, x_12, x_6_1, x_79_1_20_d0, x_79_1_20_d1, x_79_1_20_d2, x_79_1_20_d3, x_79_1_20_d4, x_62, x_61, x_85, x_7_2_I, x_7_2_A, x_7_2_U, x_4_2, x_65, x_34, x_11, x_38_148, x_79_2_20_d0, x_79_2_20_d1, x_79_2_20_d2, x_79_2_20_d3, x_79_2_20_d4, x_10_2_I, x_10_2_A, x_10_2_U, x_60, cb_ri, cb_rl, cb_rv, cb_th, cb_ite, ps_s, ps_n, u_66_0, u_66_24, u_66_26, u_66_57, u_66_63, strLen_c, hlen, a5, e5, a1', e3, h6, w32_id, decide_false, Bool.not_false, Int.reduceEq, Int.reduceLT, Int.reduceLE, reduceIte, Int.reduceAdd, Int.reduceSub, Int.reduceMul, Int.reduceNeg, Int.reduceToNat, Bool.false_eq_true, eq_self, if_pos, if_neg, ci]
      · show run _ _ _ _ _ _ = _
        rw [hd_66_28]
        simp (disch := omega) only [x_6_0, x_33, x_1, x_63, x_12, x_6_1, x_79_1_20_d0, x_79_1_20_d1, x_79_1_20_d2, x_79_1_20_d3, x_79_1_20_d4, x_62, x_61, x_85, x_7_2_I, x_7_2_A, x_7_2_U, x_4_2, x_65, x_34, x_11, x_38_148, x_79_2_20_d0, x_79_2_20_d1, x_79_2_20_d2, x_79_2_20_d3, x_79_2_20_d4, x_10_2_I, x_10_2_A, x_10_2_U, x_60, cb_ri, cb_rl, cb_rv, cb_th, cb_ite, ps_s, ps_n, u_66_0, u_66_24, u_66_26, u_66_57, u_66_63, strLen_c, hlen, Int.reduceEq, Int.reduceLT, Int.reduceLE, reduceIte, Int.reduceAdd, Int.reduceSub, Int.reduceMul, Int.reduceNeg, Int.reduceToNat, Bool.false_eq_true, eq_self, if_pos, if_neg]
    · have e2 : decide (wE t e p = p + L) = false := by simpa using h4
      simp (disch := omega) only [x_6_0, x_33, x_1, x_63, x_12, x_6_1, x_79_1_20_d0, x_79_1_20_d1, x_79_1_20_d2, x_79_1_20_d3, x_79_1_20_d4, x_62, x_61, x_85, x_7_2_I, x_7_2_A, x_7_2_U, x_4_2, x_65, x_34, x_11, x_38_148, x_79_2_20_d0, x_79_2_20_d1, x_79_2_20_d2, x_79_2_20_d3, x_79_2_20_d4, x_10_2_I, x_10_2_A, x_10_2_U, x_60, cb_ri, cb_rl, cb_rv, cb_th, cb_ite, ps_s, ps_n, u_66_0, u_66_24, u_66_26, u_66_57, u_66_63, h1, a5, a6, e1, strLen_c, hlen, w32_id, e2, Bool.false_and, Int.reduceEq, Int.reduceLT, Int.reduceLE, reduceIte, Int.reduceAdd, Int.reduceSub, Int.reduceMul, Int.reduceNeg, Int.reduceToNat, Bool.false_eq_true, eq_self, if_pos, if_neg]
  · have e1 : wE t e p = p := by
      by_cases h2 : p < e
      · have h3 : ¬ isL (t p) = true := fun z => h1 (hk1.mpr ⟨h2, z⟩)
        exact run_n _ _ h3
      · rw [show p = e by omega]; exact runE _ _ _
    have e2 : decide (wE t e p = p + L) = false := by rw [e1]; simp; omega
    simp (disch := omega) only [x_6_0, x_33, x_1, x_63, x_12, x_6_1, x_79_1_20_d0, x_79_1_20_d1, x_79_1_20_d2, x_79_1_20_d3, x_79_1_20_d4, x_62, x_61, x_85, x_7_2_I, x_7_2_A, x_7_2_U, x_4_2, x_65, x_34, x_11, x_38_148, x_79_2_20_d0, x_79_2_20_d1, x_79_2_20_d2, x_79_2_20_d3, x_79_2_20_d4, x_10_2_I, x_10_2_A, x_10_2_U, x_60, cb_ri, cb_rl, cb_rv, cb_th, cb_ite, ps_s, ps_n, u_66_0, u_66_24, u_66_26, u_66_57, u_66_63, h1, e2, Bool.false_and, Int.reduceEq, Int.reduceLT, Int.reduceLE, reduceIte, Int.reduceAdd, Int.reduceSub, Int.reduceMul, Int.reduceNeg, Int.reduceToNat, Bool.false_eq_true, eq_self, if_pos, if_neg]
theorem fail_c (lv : Nat) {h : Hp} {t : Nat → Int} {e p : Nat} (A : TA h t e p) : cl (lv + 1) 67 [aA 8 0] h = ri 0 (hset h 150 0 0 (p : Int)) := by
  obtain ⟨a1, a2, a3, a4, a5, a6, a7, a8⟩ := A
  rw [in_67]
  simp (disch := omega) only [x_6_0, x_33, x_36, x_1, x_85, u_67_0, a5]
theorem passWord_c (lv : Nat) {h : Hp} {t : Nat → Int} {e p : Nat} (s : Nat) (A : TA h t e p) (hs : s < 46) (hw : 1 ≤ (sTxt.getD s []).length ∧ (sTxt.getD s []).length ≤ 20) : cl (lv + 6) 68 [aA 8 0, aA 20 s] h = if isW t e p (sTxt.getD s []) = true then ri 1 (tpH h t e (nxt t e p)) else ri 0 (hset h 150 0 0 (p : Int)) := by
  have e1 := isWord_c lv s A hs hw
  have e2 := adv_c (lv + 4) A
  have e3 := fail_c (lv + 4) A
  rw [in_68]
  by_cases h1 : isW t e p (sTxt.getD s []) = true
  · simp (disch := omega) only [x_6_0, x_6_1, x_79_2_8_d0, x_79_2_8_d1, x_79_2_8_d2, x_79_2_8_d3, x_79_2_8_d4, x_69, x_79_1_8_d0, x_79_1_8_d1, x_79_1_8_d2, x_79_1_8_d3, x_79_1_8_d4, x_85, x_1, cb_ri, cb_rl, cb_rv, cb_th, cb_ite, ps_s, ps_n, u_68_0, u_68_13, e1, e2, e3, h1, Int.reduceEq, Int.reduceLT, Int.reduceLE, reduceIte, Int.reduceAdd, Int.reduceSub, Int.reduceMul, Int.reduceNeg, Int.reduceToNat, Bool.false_eq_true, eq_self, if_pos, if_neg]
  · simp (disch := omega) only [x_6_0, x_6_1, x_79_2_8_d0, x_79_2_8_d1, x_79_2_8_d2, x_79_2_8_d3, x_79_2_8_d4, x_69, x_79_1_8_d0, x_79_1_8_d1, x_79_1_8_d2, x_79_1_8_d3, x_79_1_8_d4, x_85, x_1, cb_ri, cb_rl, cb_rv, cb_th, cb_ite, ps_s, ps_n, u_68_0, u_68_13, e1, e2, e3, h1, Int.reduceEq, Int.reduceLT, Int.reduceLE, reduceIte, Int.reduceAdd, Int.reduceSub, Int.reduceMul, Int.reduceNeg, Int.reduceToNat, Bool.false_eq_true, eq_self, if_pos, if_neg]
theorem passSign_c (lv : Nat) {h : Hp} {t : Nat → Int} {e p : Nat} (c : Int) (A : TA h t e p) (hc1 : ¬ isL c = true) (hc2 : ¬ isD c = true) : cl (lv + 2) 69 [aA 8 0, aI c] h = if isC t e p c = true then ri 1 (tpH h t e (nxt t e p)) else ri 0 (hset h 150 0 0 (p : Int)) := by
  have e1 := isSign_c lv c A hc1 hc2
  have e2 := adv_c lv A
  have e3 := fail_c lv A
  rw [in_69]
  by_cases h1 : isC t e p c = true
  · simp (disch := omega) only [x_6_0, x_4_1, x_79_2_8_d0, x_79_2_8_d1, x_79_2_8_d2, x_79_2_8_d3, x_79_2_8_d4, x_69, x_79_1_8_d0, x_79_1_8_d1, x_79_1_8_d2, x_79_1_8_d3, x_79_1_8_d4, x_85, x_1, cb_ri, cb_rl, cb_rv, cb_th, cb_ite, ps_s, ps_n, u_69_0, u_69_13, e1, e2, e3, h1, Int.reduceEq, Int.reduceLT, Int.reduceLE, reduceIte, Int.reduceAdd, Int.reduceSub, Int.reduceMul, Int.reduceNeg, Int.reduceToNat, Bool.false_eq_true, eq_self, if_pos, if_neg]
  · simp (disch := omega) only [x_6_0, x_4_1, x_79_2_8_d0, x_79_2_8_d1, x_79_2_8_d2, x_79_2_8_d3, x_79_2_8_d4, x_69, x_79_1_8_d0, x_79_1_8_d1, x_79_1_8_d2, x_79_1_8_d3, x_79_1_8_d4, x_85, x_1, cb_ri, cb_rl, cb_rv, cb_th, cb_ite, ps_s, ps_n, u_69_0, u_69_13, e1, e2, e3, h1, Int.reduceEq, Int.reduceLT, Int.reduceLE, reduceIte, Int.reduceAdd, Int.reduceSub, Int.reduceMul, Int.reduceNeg, Int.reduceToNat, Bool.false_eq_true, eq_self, if_pos, if_neg]
theorem nu_b {t : Nat → Int} {e p : Nat} (hpe : p ≤ e) (h1 : p < dE t e p) (h2 : dE t e p ≤ p + 3) : 0 ≤ nv t p (dE t e p - p) ∧ nv t p (dE t e p - p) ≤ 999 := by
  have := nv_b (t := t) (p := p) (dE t e p - p) (fun j hj => dE_all t e _ p rfl hpe (p + j) (by omega) (by omega))
  exact ⟨this.1, this.2.2.2 (by omega)⟩
theorem passNumber_c (lv : Nat) {h : Hp} {t : Nat → Int} {e p : Nat} (hi : Int) (A : TA h t e p) (hh : hi ≤ 999) : cl (lv + 2) 70 [aA 8 0, aI hi] h = match pNum t e p hi with
    | .inl f => ri (-1) (hset h 150 0 0 (f : Int))
    | .inr (v, q) => ri v (tpH h t e q) := by
  have e2 := adv_c lv A
  have e3 := fail_c lv A
  obtain ⟨a1, a2, a3, a4, a5, a6, a7, a8⟩ := A
  have hb := dE_b t a4
  rw [in_70]
  by_cases h1 : p < e ∧ isD (t p) = true
  · have hk : h 154 0 0 = 2 := by
      rw [a7]; unfold kdA; rw [if_pos h1.1, if_neg (fun z => by have := isL_t z; have := isD_t h1.2; omega), if_pos h1.2]
    have hd : p < dE t e p := by
      have := dE_b t (show p + 1 ≤ e by omega)
      have e1 : dE t e p = dE t e (p + 1) := run_y _ _ h1.1 h1.2
      omega
    have hn : nuA t e p = nmN t p (dE t e p - p) := by unfold nuA; rw [if_pos h1]
    unfold pNum
    by_cases h2 : dE t e p ≤ p + 3
    · have hv : nuA t e p = nv t p (dE t e p - p) := by rw [hn]; unfold nmN; rw [if_pos (by omega)]
      by_cases h3 : nv t p (dE t e p - p) ≤ hi
      · rw [if_pos ⟨⟨hd, h2⟩, h3⟩]
        simp (disch := omega) only [x_6_0, x_33, x_1, x_63, x_4_1, x_67, x_61, x_79_1_8_d0, x_79_1_8_d1, x_79_1_8_d2, x_79_1_8_d3, x_79_1_8_d4, x_49, x_82, x_7_2_I, x_7_2_A, x_7_2_U, x_4_2, cb_ri, cb_rl, cb_rv, cb_th, cb_ite, ps_s, ps_n, u_70_0, u_70_16, u_70_23, hk, a8, hv, e2, e3, Int.reduceEq, Int.reduceLT, Int.reduceLE, reduceIte, Int.reduceAdd, Int.reduceSub, Int.reduceMul, Int.reduceNeg, Int.reduceToNat, Bool.false_eq_true, eq_self, if_pos, if_neg]
      · rw [if_neg (fun z => h3 z.2)]
        simp (disch := omega) only [x_6_0, x_33, x_1, x_63, x_4_1, x_67, x_61, x_79_1_8_d0, x_79_1_8_d1, x_79_1_8_d2, x_79_1_8_d3, x_79_1_8_d4, x_49, x_82, x_7_2_I, x_7_2_A, x_7_2_U, x_4_2, cb_ri, cb_rl, cb_rv, cb_th, cb_ite, ps_s, ps_n, u_70_0, u_70_16, u_70_23, hk, a8, hv, e2, e3, Int.reduceEq, Int.reduceLT, Int.reduceLE, reduceIte, Int.reduceAdd, Int.reduceSub, Int.reduceMul, Int.reduceNeg, Int.reduceToNat, Bool.false_eq_true, eq_self, if_pos, if_neg]
    · have hv : nuA t e p = 1000 := by rw [hn]; unfold nmN; rw [if_neg (by omega)]
      rw [if_neg (fun z => h2 z.1.2)]
      simp (disch := omega) only [x_6_0, x_33, x_1, x_63, x_4_1, x_67, x_61, x_79_1_8_d0, x_79_1_8_d1, x_79_1_8_d2, x_79_1_8_d3, x_79_1_8_d4, x_49, x_82, x_7_2_I, x_7_2_A, x_7_2_U, x_4_2, cb_ri, cb_rl, cb_rv, cb_th, cb_ite, ps_s, ps_n, u_70_0, u_70_16, u_70_23, hk, a8, hv, e2, e3, Int.reduceEq, Int.reduceLT, Int.reduceLE, reduceIte, Int.reduceAdd, Int.reduceSub, Int.reduceMul, Int.reduceNeg, Int.reduceToNat, Bool.false_eq_true, eq_self, if_pos, if_neg]
  · have hk : ¬ h 154 0 0 = 2 := by
      rw [a7]; unfold kdA
      split
      · rename_i z
        split
        · decide
        · split
          · rename_i z2; exact absurd ⟨z, z2⟩ h1
          · decide
      · decide
    have hd : dE t e p = p := by
      by_cases h2 : p < e
      · exact run_n _ _ (fun z => h1 ⟨h2, z⟩)
      · rw [show p = e by omega]; exact runE _ _ _
    unfold pNum
    rw [if_neg (fun z => by omega)]
    simp (disch := omega) only [x_6_0, x_33, x_1, x_63, x_4_1, x_67, x_61, x_79_1_8_d0, x_79_1_8_d1, x_79_1_8_d2, x_79_1_8_d3, x_79_1_8_d4, x_49, x_82, x_7_2_I, x_7_2_A, x_7_2_U, x_4_2, cb_ri, cb_rl, cb_rv, cb_th, cb_ite, ps_s, ps_n, u_70_0, u_70_16, u_70_23, hk, e2, e3, Int.reduceEq, Int.reduceLT, Int.reduceLE, reduceIte, Int.reduceAdd, Int.reduceSub, Int.reduceMul, Int.reduceNeg, Int.reduceToNat, Bool.false_eq_true, eq_self, if_pos, if_neg]
