theorem sum_l (lv : Nat) {h : Hp} {t : Nat → Int} {e : Nat} (cs : List Int) (B : Bt h t e) : ∀ (n : Nat) (a : CN) (p i : Nat) (g : AV), p ≤ e → e < p + n → i < p → cs.length + a.1.length ≤ p → PRes (run (lv + 5) 18 207 [aA 2 0, aI (i : Int), g] [] (LT h (cs ++ a.1) t e p)) (pSumL t e n a p) h cs t e := by
  have he := B.2.2
  intro n
  induction n with
  | zero => intro a p i g h1 h2; omega
  | succ n ih =>
    intro a p i g h1 h2 h3 h4
    have s1 := lt_sign (lv + 4) (cs ++ a.1) B h1 43 (by decide) (by decide)
    have s2 := lt_adv (lv + 4) (cs ++ a.1) B h1
    unfold pSumL
    by_cases hc : isC t e p 43 = true
    · rw [if_pos hc]
      have hlt := isC_lt hc
      have hn := nxt_b t hlt
      have st : run (lv + 5) 18 207 [aA 2 0, aI (i : Int), g] [] (LT h (cs ++ a.1) t e p) = run (lv + 5) 18 2 [aA 2 0, aI ((i + 1 : Nat) : Int), g] [] (LT h (cs ++ a.1) t e (nxt t e p)) := by
        simp (disch := omega) only [x_1, x_7_1_I, x_7_1_A, x_7_1_U, x_61, x_4_1, x_65, x_6_0, x_35_0, x_79_1_8_d0, x_79_1_8_d1, x_79_1_8_d2, x_79_1_8_d3, x_79_1_8_d4, x_68, x_79_2_8_d0, x_79_2_8_d1, x_79_2_8_d2, x_79_2_8_d3, x_79_2_8_d4, x_7_2_I, x_7_2_A, x_7_2_U, x_4_2, x_63, x_85, x_35_2, x_11, x_79_2_1_d0, x_79_2_1_d1, x_79_2_1_d2, x_79_2_1_d3, x_79_2_1_d4, x_60, x_3, x_73, x_69, x_10_1_I, x_10_1_A, x_10_1_U, cb_ri, cb_rl, cb_rv, cb_th, cb_ite, ps_s, ps_n, u_18_0, u_18_37, u_18_51, u_18_67, u_18_83, u_18_99, u_18_115, u_18_131, u_18_147, u_18_164, u_18_165, u_18_179, u_18_194, u_18_207, u_18_221, u_18_234, s1, s2, hc, w32_id, Int.reduceEq, Int.reduceLT, Int.reduceLE, reduceIte, Int.reduceAdd, Int.reduceSub, Int.reduceMul, Int.reduceNeg, Int.reduceToNat, Bool.false_eq_true, eq_self, if_pos, if_neg, ci]
      rw [st]
      have pt := part_c lv (cs ++ a.1) B hn.2 (i + 1) (by omega) (by rw [List.length_append]; omega) g
      cases hq : pPart t e (nxt t e p) with
      | inl f =>
        rw [hq] at pt
        exact ⟨_, pt⟩
      | inr z =>
        obtain ⟨op, q⟩ := z
        rw [hq] at pt
        obtain ⟨g', pt⟩ := pt
        have hb := pPart_len hn.2 hq
        rw [pt]
        have em := emit_c (lv + 4) h (cs ++ a.1 ++ [op]) t e q 10 (by simp only [List.length_append, List.length_cons, List.length_nil]; omega)
        have e1 : cs ++ a.1 ++ [op] ++ [10] = cs ++ (a.1 ++ [op, 10]) := by simp
        rw [e1] at em
        have st : run (lv + 5) 18 194 [aA 2 0, aI ((i + 1 : Nat) : Int), g'] [] (LT h (cs ++ a.1 ++ [op]) t e q) = run (lv + 5) 18 207 [aA 2 0, aI ((i + 1 : Nat) : Int), g'] [] (LT h (cs ++ (a.1 ++ [op, 10])) t e q) := by
          simp (disch := omega) only [x_1, x_7_1_I, x_7_1_A, x_7_1_U, x_61, x_4_1, x_65, x_6_0, x_35_0, x_79_1_8_d0, x_79_1_8_d1, x_79_1_8_d2, x_79_1_8_d3, x_79_1_8_d4, x_68, x_79_2_8_d0, x_79_2_8_d1, x_79_2_8_d2, x_79_2_8_d3, x_79_2_8_d4, x_7_2_I, x_7_2_A, x_7_2_U, x_4_2, x_63, x_85, x_35_2, x_11, x_79_2_1_d0, x_79_2_1_d1, x_79_2_1_d2, x_79_2_1_d3, x_79_2_1_d4, x_60, x_3, x_73, x_69, x_10_1_I, x_10_1_A, x_10_1_U, cb_ri, cb_rl, cb_rv, cb_th, cb_ite, ps_s, ps_n, u_18_0, u_18_37, u_18_51, u_18_67, u_18_83, u_18_99, u_18_115, u_18_131, u_18_147, u_18_164, u_18_165, u_18_179, u_18_194, u_18_221, u_18_234, em, Int.reduceEq, Int.reduceLT, Int.reduceLE, reduceIte, Int.reduceAdd, Int.reduceSub, Int.reduceMul, Int.reduceNeg, Int.reduceToNat, Bool.false_eq_true, eq_self, if_pos, if_neg]
        rw [st]
        exact ih (a.1 ++ [op, 10], fun F => w32 (a.2 F + dn F op)) q (i + 1) g' hb.2 (by omega) (by omega) (by simp only [List.length_append, List.length_cons, List.length_nil]; omega)
    · rw [if_neg hc]
      show run _ _ _ _ _ _ = _
      simp (disch := omega) only [x_1, x_7_1_I, x_7_1_A, x_7_1_U, x_61, x_4_1, x_65, x_6_0, x_35_0, x_79_1_8_d0, x_79_1_8_d1, x_79_1_8_d2, x_79_1_8_d3, x_79_1_8_d4, x_68, x_79_2_8_d0, x_79_2_8_d1, x_79_2_8_d2, x_79_2_8_d3, x_79_2_8_d4, x_7_2_I, x_7_2_A, x_7_2_U, x_4_2, x_63, x_85, x_35_2, x_11, x_79_2_1_d0, x_79_2_1_d1, x_79_2_1_d2, x_79_2_1_d3, x_79_2_1_d4, x_60, x_3, x_73, x_69, x_10_1_I, x_10_1_A, x_10_1_U, cb_ri, cb_rl, cb_rv, cb_th, cb_ite, ps_s, ps_n, u_18_0, u_18_37, u_18_51, u_18_67, u_18_83, u_18_99, u_18_115, u_18_131, u_18_147, u_18_164, u_18_165, u_18_179, u_18_194, u_18_207, u_18_221, u_18_234, s1, hc, Int.reduceEq, Int.reduceLT, Int.reduceLE, reduceIte, Int.reduceAdd, Int.reduceSub, Int.reduceMul, Int.reduceNeg, Int.reduceToNat, Bool.false_eq_true, eq_self, if_pos, if_neg]
theorem sum_c (lv : Nat) {h : Hp} {t : Nat → Int} {e p : Nat} (cs : List Int) (B : Bt h t e) (hp : p ≤ e) (hl : cs.length ≤ p) : PRes (cl (lv + 6) 18 [aA 2 0] (LT h cs t e p)) (pSum t e p) h cs t e := by
  have he := B.2.2
  by_cases hpe : p = e
  · have e1 : pPart t e p = .inl p := by
      have e2 : ¬ (p < e ∧ isD (t p) = true) := by omega
      have e3 : nmAt t e p = -1 := by
        by_cases z : nmAt t e p = -1
        · exact z
        · have := nmAt_lt hp z; omega
      unfold pPart
      rw [if_neg e2, if_pos e3]
    have d1 := lt_num (lv + 4) cs B hp
    rw [if_neg (by omega)] at d1
    have e3 : nmAt t e p = -1 := by
      by_cases z : nmAt t e p = -1
      · exact z
      · have := nmAt_lt hp z; omega
    have nm := nm_c lv cs B hp (aI 0) none
    have d3 := lt_fail (lv + 4) cs B hp
    unfold pSum
    rw [e1, in_18]
    refine ⟨cs, ?_⟩
    simp (disch := omega) only [x_1, x_7_1_I, x_7_1_A, x_7_1_U, x_61, x_4_1, x_65, x_6_0, x_35_0, x_79_1_8_d0, x_79_1_8_d1, x_79_1_8_d2, x_79_1_8_d3, x_79_1_8_d4, x_68, x_79_2_8_d0, x_79_2_8_d1, x_79_2_8_d2, x_79_2_8_d3, x_79_2_8_d4, x_7_2_I, x_7_2_A, x_7_2_U, x_4_2, x_63, x_85, x_35_2, x_11, x_79_2_1_d0, x_79_2_1_d1, x_79_2_1_d2, x_79_2_1_d3, x_79_2_1_d4, x_60, x_3, x_73, x_69, x_10_1_I, x_10_1_A, x_10_1_U, cb_ri, cb_rl, cb_rv, cb_th, cb_ite, ps_s, ps_n, u_18_0, u_18_37, u_18_67, u_18_83, u_18_99, u_18_115, u_18_131, u_18_147, u_18_164, u_18_165, u_18_179, u_18_194, u_18_207, u_18_221, u_18_234, hd_18_2, d1, nm, e3, d3, Int.reduceEq, Int.reduceLT, Int.reduceLE, reduceIte, Int.reduceAdd, Int.reduceSub, Int.reduceMul, Int.reduceNeg, Int.reduceToNat, Bool.false_eq_true, eq_self, if_pos, if_neg]
  have pt := part_c lv cs B hp 0 (by omega) (by omega) none
  have st : cl (lv + 6) 18 [aA 2 0] (LT h cs t e p) = run (lv + 5) 18 2 [aA 2 0, aI ((0 : Nat) : Int), none] [] (LT h cs t e p) := by
    rw [in_18]
    simp (disch := omega) only [x_1, x_7_1_I, x_7_1_A, x_7_1_U, x_61, x_4_1, x_65, x_6_0, x_35_0, x_79_1_8_d0, x_79_1_8_d1, x_79_1_8_d2, x_79_1_8_d3, x_79_1_8_d4, x_68, x_79_2_8_d0, x_79_2_8_d1, x_79_2_8_d2, x_79_2_8_d3, x_79_2_8_d4, x_7_2_I, x_7_2_A, x_7_2_U, x_4_2, x_63, x_85, x_35_2, x_11, x_79_2_1_d0, x_79_2_1_d1, x_79_2_1_d2, x_79_2_1_d3, x_79_2_1_d4, x_60, x_3, x_73, x_69, x_10_1_I, x_10_1_A, x_10_1_U, cb_ri, cb_rl, cb_rv, cb_th, cb_ite, ps_s, ps_n, u_18_0, u_18_37, u_18_51, u_18_67, u_18_83, u_18_99, u_18_115, u_18_131, u_18_147, u_18_164, u_18_165, u_18_179, u_18_194, u_18_207, u_18_221, u_18_234, Int.reduceEq, Int.reduceLT, Int.reduceLE, reduceIte, Int.reduceAdd, Int.reduceSub, Int.reduceMul, Int.reduceNeg, Int.reduceToNat, Bool.false_eq_true, eq_self, if_pos, if_neg]
    rfl
  rw [st]
  unfold pSum
  cases hq : pPart t e p with
  | inl f =>
    rw [hq] at pt
    exact ⟨_, pt⟩
  | inr z =>
    obtain ⟨op, q⟩ := z
    rw [hq] at pt
    obtain ⟨g', pt⟩ := pt
    have hb := pPart_len hp hq
    rw [pt]
    have st : run (lv + 5) 18 194 [aA 2 0, aI ((0 : Nat) : Int), g'] [] (LT h (cs ++ [op]) t e q) = run (lv + 5) 18 207 [aA 2 0, aI ((0 : Nat) : Int), g'] [] (LT h (cs ++ [op]) t e q) := by
      simp (disch := omega) only [x_1, x_7_1_I, x_7_1_A, x_7_1_U, x_61, x_4_1, x_65, x_6_0, x_35_0, x_79_1_8_d0, x_79_1_8_d1, x_79_1_8_d2, x_79_1_8_d3, x_79_1_8_d4, x_68, x_79_2_8_d0, x_79_2_8_d1, x_79_2_8_d2, x_79_2_8_d3, x_79_2_8_d4, x_7_2_I, x_7_2_A, x_7_2_U, x_4_2, x_63, x_85, x_35_2, x_11, x_79_2_1_d0, x_79_2_1_d1, x_79_2_1_d2, x_79_2_1_d3, x_79_2_1_d4, x_60, x_3, x_73, x_69, x_10_1_I, x_10_1_A, x_10_1_U, cb_ri, cb_rl, cb_rv, cb_th, cb_ite, ps_s, ps_n, u_18_0, u_18_37, u_18_51, u_18_67, u_18_83, u_18_99, u_18_115, u_18_131, u_18_147, u_18_164, u_18_165, u_18_179, u_18_194, u_18_221, u_18_234, Int.reduceEq, Int.reduceLT, Int.reduceLE, reduceIte, Int.reduceAdd, Int.reduceSub, Int.reduceMul, Int.reduceNeg, Int.reduceToNat, Bool.false_eq_true, eq_self, if_pos, if_neg]
    rw [st]
    exact sum_l lv cs B (e + 1 - q) ([op], fun F => dn F op) q 0 g' hb.2 (by omega) (by omega) (by simp; omega)
theorem plain_c (lv : Nat) {h : Hp} {t : Nat → Int} {e p : Nat} (cs : List Int) (B : Bt h t e) (hp : p ≤ e) (hl : cs.length ≤ p) (D : Int) (g : AV) (y : Int) : PRes (run (lv + 6) 16 89 [aA 2 0, aI D, aI y, g] [] (LT h cs t e p)) (pPlain t e p) h cs t e := by
  have he := B.2.2
  have w1 := lt_word (lv + 1) cs B hp 12 wLeft rfl (by decide) (by decide)
  have w2 := lt_word (lv + 1) cs B hp 13 wLow rfl (by decide) (by decide)
  unfold pPlain
  by_cases h1 : isW t e p wLeft = true
  · have hlt := isW_lt hp h1 (by decide)
    have em := emit_c (lv + 5) h cs t e p 7 (by omega)
    have ad := lt_adv (lv + 5) (cs ++ [7]) B hp
    rw [if_pos h1]
    show run _ _ _ _ _ _ = _
    simp (disch := omega) only [x_6_0, x_35_0, x_3, x_79_2_8_d0, x_79_2_8_d1, x_79_2_8_d2, x_79_2_8_d3, x_79_2_8_d4, x_7_2_I, x_7_2_A, x_7_2_U, x_4_2, x_69, x_1, x_68, x_61, x_4_1, x_64, x_79_1_8_d0, x_79_1_8_d1, x_79_1_8_d2, x_79_1_8_d3, x_79_1_8_d4, x_85, x_11, x_79_2_2_d0, x_79_2_2_d1, x_79_2_2_d2, x_79_2_2_d3, x_79_2_2_d4, x_60, x_35_2, x_79_2_1_d0, x_79_2_1_d1, x_79_2_1_d2, x_79_2_1_d3, x_79_2_1_d4, x_79_1_2_d0, x_79_1_2_d1, x_79_1_2_d2, x_79_1_2_d3, x_79_1_2_d4, x_7_3_I, x_7_3_A, x_7_3_U, x_4_3, x_63, cb_ri, cb_rl, cb_rv, cb_th, cb_ite, ps_s, ps_n, u_16_0, u_16_26, u_16_40, u_16_61, u_16_87, u_16_88, u_16_89, u_16_113, u_16_134, u_16_136, u_16_148, u_16_157, u_16_174, u_16_176, u_16_203, u_16_219, w1, h1, em, ad, Int.reduceEq, Int.reduceLT, Int.reduceLE, reduceIte, Int.reduceAdd, Int.reduceSub, Int.reduceMul, Int.reduceNeg, Int.reduceToNat, Bool.false_eq_true, eq_self, if_pos, if_neg]
  rw [if_neg h1]
  by_cases h2 : isW t e p wLow = true
  · have hlt := isW_lt hp h2 (by decide)
    have em := emit_c (lv + 5) h cs t e p 8 (by omega)
    have ad := lt_adv (lv + 5) (cs ++ [8]) B hp
    rw [if_pos h2]
    show run _ _ _ _ _ _ = _
    simp (disch := omega) only [x_6_0, x_35_0, x_3, x_79_2_8_d0, x_79_2_8_d1, x_79_2_8_d2, x_79_2_8_d3, x_79_2_8_d4, x_7_2_I, x_7_2_A, x_7_2_U, x_4_2, x_69, x_1, x_68, x_61, x_4_1, x_64, x_79_1_8_d0, x_79_1_8_d1, x_79_1_8_d2, x_79_1_8_d3, x_79_1_8_d4, x_85, x_11, x_79_2_2_d0, x_79_2_2_d1, x_79_2_2_d2, x_79_2_2_d3, x_79_2_2_d4, x_60, x_35_2, x_79_2_1_d0, x_79_2_1_d1, x_79_2_1_d2, x_79_2_1_d3, x_79_2_1_d4, x_79_1_2_d0, x_79_1_2_d1, x_79_1_2_d2, x_79_1_2_d3, x_79_1_2_d4, x_7_3_I, x_7_3_A, x_7_3_U, x_4_3, x_63, cb_ri, cb_rl, cb_rv, cb_th, cb_ite, ps_s, ps_n, u_16_0, u_16_26, u_16_40, u_16_61, u_16_87, u_16_88, u_16_89, u_16_113, u_16_134, u_16_136, u_16_148, u_16_157, u_16_174, u_16_176, u_16_203, u_16_219, w1, w2, h1, h2, em, ad, Int.reduceEq, Int.reduceLT, Int.reduceLE, reduceIte, Int.reduceAdd, Int.reduceSub, Int.reduceMul, Int.reduceNeg, Int.reduceToNat, Bool.false_eq_true, eq_self, if_pos, if_neg]
  rw [if_neg h2]
  have sm := sum_c lv cs B hp hl
  have l1 := pSum_len (t := t) hp
  cases hs : pSum t e p with
  | inl f =>
    rw [hs] at sm
    obtain ⟨cs', sm⟩ := sm
    refine ⟨cs', ?_⟩
    simp (disch := omega) only [x_6_0, x_35_0, x_3, x_79_2_8_d0, x_79_2_8_d1, x_79_2_8_d2, x_79_2_8_d3, x_79_2_8_d4, x_7_2_I, x_7_2_A, x_7_2_U, x_4_2, x_69, x_1, x_68, x_61, x_4_1, x_64, x_79_1_8_d0, x_79_1_8_d1, x_79_1_8_d2, x_79_1_8_d3, x_79_1_8_d4, x_85, x_11, x_79_2_2_d0, x_79_2_2_d1, x_79_2_2_d2, x_79_2_2_d3, x_79_2_2_d4, x_60, x_35_2, x_79_2_1_d0, x_79_2_1_d1, x_79_2_1_d2, x_79_2_1_d3, x_79_2_1_d4, x_79_1_2_d0, x_79_1_2_d1, x_79_1_2_d2, x_79_1_2_d3, x_79_1_2_d4, x_7_3_I, x_7_3_A, x_7_3_U, x_4_3, x_63, cb_ri, cb_rl, cb_rv, cb_th, cb_ite, ps_s, ps_n, u_16_0, u_16_26, u_16_40, u_16_61, u_16_87, u_16_88, u_16_89, u_16_113, u_16_134, u_16_136, u_16_148, u_16_157, u_16_174, u_16_176, u_16_203, u_16_219, w1, w2, h1, h2, sm, Int.reduceEq, Int.reduceLT, Int.reduceLE, reduceIte, Int.reduceAdd, Int.reduceSub, Int.reduceMul, Int.reduceNeg, Int.reduceToNat, Bool.false_eq_true, eq_self, if_pos, if_neg]
  | inr z =>
    obtain ⟨a, q⟩ := z
    rw [hs] at sm l1
    have sm : _ = ri 1 (LT h (cs ++ a.1) t e q) := sm
    have l1 : p + a.1.length ≤ q ∧ p < q ∧ q ≤ e := l1
    have s1 := lt_sign (lv + 5) (cs ++ a.1) B l1.2.2 60 (by decide) (by decide)
    have s2 := lt_sign (lv + 5) (cs ++ a.1) B l1.2.2 62 (by decide) (by decide)
    have ad := lt_adv (lv + 5) (cs ++ a.1) B l1.2.2
    have fl := lt_fail (lv + 5) (cs ++ a.1) B l1.2.2
    by_cases h3 : isC t e q 60 = true
    · have hn := nxt_b t (isC_lt h3)
      have sn := sum_c lv (cs ++ a.1) B hn.2 (by rw [List.length_append]; omega)
      have l2 := pSum_len (t := t) hn.2
      simp only [h3, true_or, if_pos]
      cases hu : pSum t e (nxt t e q) with
      | inl f =>
        rw [hu] at sn
        obtain ⟨cs', sn⟩ := sn
        refine ⟨cs', ?_⟩
        simp (disch := omega) only [x_6_0, x_35_0, x_3, x_79_2_8_d0, x_79_2_8_d1, x_79_2_8_d2, x_79_2_8_d3, x_79_2_8_d4, x_7_2_I, x_7_2_A, x_7_2_U, x_4_2, x_69, x_1, x_68, x_61, x_4_1, x_64, x_79_1_8_d0, x_79_1_8_d1, x_79_1_8_d2, x_79_1_8_d3, x_79_1_8_d4, x_85, x_11, x_79_2_2_d0, x_79_2_2_d1, x_79_2_2_d2, x_79_2_2_d3, x_79_2_2_d4, x_60, x_35_2, x_79_2_1_d0, x_79_2_1_d1, x_79_2_1_d2, x_79_2_1_d3, x_79_2_1_d4, x_79_1_2_d0, x_79_1_2_d1, x_79_1_2_d2, x_79_1_2_d3, x_79_1_2_d4, x_7_3_I, x_7_3_A, x_7_3_U, x_4_3, x_63, cb_ri, cb_rl, cb_rv, cb_th, cb_ite, ps_s, ps_n, u_16_0, u_16_26, u_16_40, u_16_61, u_16_87, u_16_88, u_16_89, u_16_113, u_16_134, u_16_136, u_16_148, u_16_157, u_16_174, u_16_176, u_16_203, u_16_219, w1, w2, h1, h2, h3, sm, s1, s2, ad, sn, Int.reduceEq, Int.reduceLT, Int.reduceLE, reduceIte, Int.reduceAdd, Int.reduceSub, Int.reduceMul, Int.reduceNeg, Int.reduceToNat, Bool.false_eq_true, eq_self, if_pos, if_neg]
      | inr z =>
        obtain ⟨b, r⟩ := z
        rw [hu] at sn l2
        have sn : _ = ri 1 (LT h (cs ++ a.1 ++ b.1) t e r) := sn
        have l2 : nxt t e q + b.1.length ≤ r ∧ nxt t e q < r ∧ r ≤ e := l2
        have em := emit_c (lv + 5) h (cs ++ a.1 ++ b.1) t e r 11 (by simp only [List.length_append]; omega)
        have e1 : cs ++ a.1 ++ b.1 ++ [11] = cs ++ (a.1 ++ b.1 ++ [11]) := by simp
        rw [e1] at em
        show run _ _ _ _ _ _ = _
        simp (disch := omega) only [x_6_0, x_35_0, x_3, x_79_2_8_d0, x_79_2_8_d1, x_79_2_8_d2, x_79_2_8_d3, x_79_2_8_d4, x_7_2_I, x_7_2_A, x_7_2_U, x_4_2, x_69, x_1, x_68, x_61, x_4_1, x_64, x_79_1_8_d0, x_79_1_8_d1, x_79_1_8_d2, x_79_1_8_d3, x_79_1_8_d4, x_85, x_11, x_79_2_2_d0, x_79_2_2_d1, x_79_2_2_d2, x_79_2_2_d3, x_79_2_2_d4, x_60, x_35_2, x_79_2_1_d0, x_79_2_1_d1, x_79_2_1_d2, x_79_2_1_d3, x_79_2_1_d4, x_79_1_2_d0, x_79_1_2_d1, x_79_1_2_d2, x_79_1_2_d3, x_79_1_2_d4, x_7_3_I, x_7_3_A, x_7_3_U, x_4_3, x_63, cb_ri, cb_rl, cb_rv, cb_th, cb_ite, ps_s, ps_n, u_16_0, u_16_26, u_16_40, u_16_61, u_16_87, u_16_88, u_16_89, u_16_113, u_16_134, u_16_136, u_16_148, u_16_157, u_16_174, u_16_176, u_16_203, u_16_219, w1, w2, h1, h2, h3, sm, s1, s2, ad, sn, em, Int.reduceEq, Int.reduceLT, Int.reduceLE, reduceIte, Int.reduceAdd, Int.reduceSub, Int.reduceMul, Int.reduceNeg, Int.reduceToNat, Bool.false_eq_true, eq_self, if_pos, if_neg]
    · by_cases h4 : isC t e q 62 = true
      · have hn := nxt_b t (isC_lt h4)
        have sn := sum_c lv (cs ++ a.1) B hn.2 (by rw [List.length_append]; omega)
        have l2 := pSum_len (t := t) hn.2
        simp only [h3, h4, or_true, if_pos, Bool.false_eq_true, if_neg]
        cases hu : pSum t e (nxt t e q) with
        | inl f =>
          rw [hu] at sn
          obtain ⟨cs', sn⟩ := sn
          refine ⟨cs', ?_⟩
          simp (disch := omega) only [x_6_0, x_35_0, x_3, x_79_2_8_d0, x_79_2_8_d1, x_79_2_8_d2, x_79_2_8_d3, x_79_2_8_d4, x_7_2_I, x_7_2_A, x_7_2_U, x_4_2, x_69, x_1, x_68, x_61, x_4_1, x_64, x_79_1_8_d0, x_79_1_8_d1, x_79_1_8_d2, x_79_1_8_d3, x_79_1_8_d4, x_85, x_11, x_79_2_2_d0, x_79_2_2_d1, x_79_2_2_d2, x_79_2_2_d3, x_79_2_2_d4, x_60, x_35_2, x_79_2_1_d0, x_79_2_1_d1, x_79_2_1_d2, x_79_2_1_d3, x_79_2_1_d4, x_79_1_2_d0, x_79_1_2_d1, x_79_1_2_d2, x_79_1_2_d3, x_79_1_2_d4, x_7_3_I, x_7_3_A, x_7_3_U, x_4_3, x_63, cb_ri, cb_rl, cb_rv, cb_th, cb_ite, ps_s, ps_n, u_16_0, u_16_26, u_16_40, u_16_61, u_16_87, u_16_88, u_16_89, u_16_113, u_16_134, u_16_136, u_16_148, u_16_157, u_16_174, u_16_176, u_16_203, u_16_219, w1, w2, h1, h2, h3, h4, sm, s1, s2, ad, sn, Int.reduceEq, Int.reduceLT, Int.reduceLE, reduceIte, Int.reduceAdd, Int.reduceSub, Int.reduceMul, Int.reduceNeg, Int.reduceToNat, Bool.false_eq_true, eq_self, if_pos, if_neg]
        | inr z =>
          obtain ⟨b, r⟩ := z
          rw [hu] at sn l2
          have sn : _ = ri 1 (LT h (cs ++ a.1 ++ b.1) t e r) := sn
          have l2 : nxt t e q + b.1.length ≤ r ∧ nxt t e q < r ∧ r ≤ e := l2
          have em := emit_c (lv + 5) h (cs ++ a.1 ++ b.1) t e r 12 (by simp only [List.length_append]; omega)
          have e1 : cs ++ a.1 ++ b.1 ++ [12] = cs ++ (a.1 ++ b.1 ++ [12]) := by simp
          rw [e1] at em
          show run _ _ _ _ _ _ = _
          simp (disch := omega) only [x_6_0, x_35_0, x_3, x_79_2_8_d0, x_79_2_8_d1, x_79_2_8_d2, x_79_2_8_d3, x_79_2_8_d4, x_7_2_I, x_7_2_A, x_7_2_U, x_4_2, x_69, x_1, x_68, x_61, x_4_1, x_64, x_79_1_8_d0, x_79_1_8_d1, x_79_1_8_d2, x_79_1_8_d3, x_79_1_8_d4, x_85, x_11, x_79_2_2_d0, x_79_2_2_d1, x_79_2_2_d2, x_79_2_2_d3, x_79_2_2_d4, x_60, x_35_2, x_79_2_1_d0, x_79_2_1_d1, x_79_2_1_d2, x_79_2_1_d3, x_79_2_1_d4, x_79_1_2_d0, x_79_1_2_d1, x_79_1_2_d2, x_79_1_2_d3, x_79_1_2_d4, x_7_3_I, x_7_3_A, x_7_3_U, x_4_3, x_63, cb_ri, cb_rl, cb_rv, cb_th, cb_ite, ps_s, ps_n, u_16_0, u_16_26, u_16_40, u_16_61, u_16_87, u_16_88, u_16_89, u_16_113, u_16_134, u_16_136, u_16_148, u_16_157, u_16_174, u_16_176, u_16_203, u_16_219, w1, w2, h1, h2, h3, h4, sm, s1, s2, ad, sn, em, Int.reduceEq, Int.reduceLT, Int.reduceLE, reduceIte, Int.reduceAdd, Int.reduceSub, Int.reduceMul, Int.reduceNeg, Int.reduceToNat, Bool.false_eq_true, eq_self, if_pos, if_neg]
      · have h5 : ¬ (isC t e q 60 = true ∨ isC t e q 62 = true) := by rintro (z | z); exact h3 z; exact h4 z
        simp only [h5, if_neg, not_false_eq_true]
        refine ⟨cs ++ a.1, ?_⟩
        simp (disch := omega) only [x_6_0, x_35_0, x_3, x_79_2_8_d0, x_79_2_8_d1, x_79_2_8_d2, x_79_2_8_d3, x_79_2_8_d4, x_7_2_I, x_7_2_A, x_7_2_U, x_4_2, x_69, x_1, x_68, x_61, x_4_1, x_64, x_79_1_8_d0, x_79_1_8_d1, x_79_1_8_d2, x_79_1_8_d3, x_79_1_8_d4, x_85, x_11, x_79_2_2_d0, x_79_2_2_d1, x_79_2_2_d2, x_79_2_2_d3, x_79_2_2_d4, x_60, x_35_2, x_79_2_1_d0, x_79_2_1_d1, x_79_2_1_d2, x_79_2_1_d3, x_79_2_1_d4, x_79_1_2_d0, x_79_1_2_d1, x_79_1_2_d2, x_79_1_2_d3, x_79_1_2_d4, x_7_3_I, x_7_3_A, x_7_3_U, x_4_3, x_63, cb_ri, cb_rl, cb_rv, cb_th, cb_ite, ps_s, ps_n, u_16_0, u_16_26, u_16_40, u_16_61, u_16_87, u_16_88, u_16_89, u_16_113, u_16_134, u_16_136, u_16_148, u_16_157, u_16_174, u_16_176, u_16_203, u_16_219, w1, w2, h1, h2, h3, h4, sm, s1, s2, fl, Int.reduceEq, Int.reduceLT, Int.reduceLE, reduceIte, Int.reduceAdd, Int.reduceSub, Int.reduceMul, Int.reduceNeg, Int.reduceToNat, Bool.false_eq_true, eq_self, if_pos, if_neg]
